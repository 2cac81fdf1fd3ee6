import java.io.IOException;
import java.lang.reflect.InvocationTargetException;
import java.lang.reflect.Method;
import java.lang.reflect.Modifier;
import java.nio.file.Files;
import java.nio.file.Path;
import java.util.HashSet;
import java.util.Set;
import java.util.regex.Matcher;
import java.util.regex.Pattern;

/**
 * README.md says nothing that the class does not do: every call of its examples is made, and answers or
 * throws what stands behind its "->". And it leaves out nothing: each call of the face has a section,
 * with an example of each way in which the document lets it be refused.
 */
public final class ReadmeTest {
    private static final String MADE_ANEW = "ToneMixer mixer = new ToneMixer();";
    private static final Pattern CALL = Pattern.compile("mixer\\.(\\w+)\\(([^)]*)\\);\\s*(?://\\s*(.*))?");
    private static final Pattern SECTION = Pattern.compile("### (\\w+)\\((.*)\\)");
    private static final String ARROW = "-> ";
    private static final Set<String> MAY_ANSWER_NONE = Set.of("apart", "look");

    private final Checks checks = new Checks();
    private final Set<String> seen = new HashSet<>();
    private ToneMixer mixer;
    private String section = "";

    public static void main(String[] args) throws IOException, IllegalAccessException {
        ReadmeTest test = new ReadmeTest();
        test.examples();
        test.nothingIsLeftOut();
        test.checks.end();
    }

    private void examples() throws IOException, IllegalAccessException {
        boolean inExample = false;
        for (String line : Files.readAllLines(Path.of("README.md"))) {
            if (line.startsWith("```")) {
                inExample = line.equals("```java");
                mixer = null;
            } else if (inExample) {
                example(line);
            } else if (line.startsWith("#")) {
                section = line;
                seen.add(signature(line));
            }
        }
    }

    private static String signature(String heading) {
        Matcher parts = SECTION.matcher(heading);
        return parts.matches() ? parts.group(1) + " of " + parts.group(2).split(", ").length : heading;
    }

    private void example(String line) throws IllegalAccessException {
        Matcher parts = CALL.matcher(line);
        if (line.equals(MADE_ANEW)) {
            mixer = new ToneMixer();
        } else if (mixer == null || !parts.matches()) {
            checks.due(section + ": " + line, "a call of an object", "something else");
        } else {
            answers(line, methodOf(parts.group(1)), parts.group(2), answerOf(parts.group(3)));
        }
    }

    private void answers(String line, Method method, String arguments, String due) throws IllegalAccessException {
        checks.due(section + ": " + line, due, told(method, arguments));
        if (section.startsWith("### " + method.getName() + "(")) {
            seen.add(method.getName() + " " + due);
        }
    }

    private static Method methodOf(String name) {
        for (Method method : ToneMixer.class.getMethods()) {
            if (method.getName().equals(name)) {
                return method;
            }
        }
        throw new IllegalStateException("README.md calls " + name);
    }

    // Behind the answer there may be a comma and words for the reader.
    private static String answerOf(String comment) {
        if (comment == null || !comment.startsWith(ARROW)) {
            return "nothing";
        }
        String answer = comment.substring(ARROW.length()).split(",")[0].trim();
        return Character.isDigit(answer.charAt(0)) ? Long.toString(number(answer)) : answer;
    }

    private static long number(String text) {
        String digits = text.replace("L", "");
        return digits.startsWith("0x") ? Long.parseUnsignedLong(digits.substring(2), 16) : Long.parseLong(digits);
    }

    private String told(Method method, String arguments) throws IllegalAccessException {
        try {
            Object answer = method.invoke(mixer, values(method, arguments));
            boolean none = answer instanceof Integer && answer.equals(ToneMixer.NONE);
            return answer == null ? "nothing" : none ? "NONE" : answer.toString();
        } catch (InvocationTargetException e) {
            // The exact class, so that what the machine throws by itself is not taken for it.
            return "throws " + e.getCause().getClass().getName().replace("java.lang.", "");
        }
    }

    private static Object[] values(Method method, String arguments) {
        String[] texts = arguments.split(", ");
        Object[] values = new Object[texts.length];
        for (int i = 0; i < texts.length; i++) {
            long value = number(texts[i]);
            if (method.getParameterTypes()[i] == int.class) {
                values[i] = Math.toIntExact(value);
            } else {
                values[i] = value;
            }
        }
        return values;
    }

    private void nothingIsLeftOut() {
        for (Method method : ToneMixer.class.getDeclaredMethods()) {
            if (Modifier.isPublic(method.getModifiers())) {
                String name = method.getName();
                isSeen(name + " of " + method.getParameterCount());
                for (Class<?> exception : method.getExceptionTypes()) {
                    isSeen(name + " throws " + exception.getSimpleName());
                }
                if (method.getReturnType() == boolean.class) {
                    isSeen(name + " true");
                    isSeen(name + " false");
                }
                if (MAY_ANSWER_NONE.contains(name)) {
                    isSeen(name + " NONE");
                }
            }
        }
    }

    private void isSeen(String what) {
        checks.due("README.md tells of " + what, true, seen.contains(what));
    }
}
