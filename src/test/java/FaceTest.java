import java.lang.reflect.Constructor;
import java.lang.reflect.Field;
import java.lang.reflect.Method;
import java.lang.reflect.Modifier;
import java.util.Arrays;
import java.util.TreeSet;

/** The public face has what the document lists, and nothing beside it can be seen. */
public final class FaceTest {
    private static final String INDEX = " throws java.lang.IndexOutOfBoundsException";
    private static final String BOTH = INDEX + ",java.lang.IllegalArgumentException";

    private static final String[] METHODS = {
        "public void ToneMixer.size(int,int,int)" + BOTH,
        "public void ToneMixer.put(int,int,int,int)" + BOTH,
        "public void ToneMixer.row(int,int,int,long)" + INDEX,
        "public boolean ToneMixer.grow(int,int)" + INDEX,
        "public boolean ToneMixer.shrink(int,int)" + INDEX,
        "public boolean ToneMixer.mix(int)",
        "public void ToneMixer.copy(int,int)" + INDEX,
        "public boolean ToneMixer.extend(int,int,int)" + INDEX,
        "public boolean ToneMixer.cut(int,int,int)" + INDEX,
        "public int ToneMixer.at(int,int,int)" + INDEX,
        "public long ToneMixer.eight(int,int,int)" + INDEX,
        "public int ToneMixer.apart(int,int)" + INDEX,
        "public int ToneMixer.look(int,int)" + INDEX,
    };

    public static void main(String[] args) throws Exception {
        Checks checks = new Checks();
        checks.due("the class", "public final", Modifier.toString(ToneMixer.class.getModifiers()));
        checks.due("the methods", new TreeSet<>(Arrays.asList(METHODS)).toString(), methods().toString());
        checks.due("the fields", "[public static final int ToneMixer.NONE]", fields().toString());
        checks.due("the constructors", "[public ToneMixer()]", constructors().toString());
        checks.due("NONE", -1, ToneMixer.NONE);
        checks.due("NONE by reflection", -1, ToneMixer.class.getField("NONE").getInt(null));
        checks.end();
    }

    private static TreeSet<String> methods() {
        TreeSet<String> seen = new TreeSet<>();
        for (Method m : ToneMixer.class.getDeclaredMethods()) {
            if (!Modifier.isPrivate(m.getModifiers())) {
                seen.add(m.toString());
            }
        }
        return seen;
    }

    private static TreeSet<String> fields() {
        TreeSet<String> seen = new TreeSet<>();
        for (Field f : ToneMixer.class.getDeclaredFields()) {
            if (!Modifier.isPrivate(f.getModifiers())) {
                seen.add(f.toString());
            }
        }
        return seen;
    }

    private static TreeSet<String> constructors() {
        TreeSet<String> seen = new TreeSet<>();
        for (Constructor<?> c : ToneMixer.class.getDeclaredConstructors()) {
            if (!Modifier.isPrivate(c.getModifiers())) {
                seen.add(c.toString());
            }
        }
        return seen;
    }
}
