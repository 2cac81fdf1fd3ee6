import java.util.HashSet;
import java.util.Set;

/**
 * Cases beside the sentences of the document that name a boundary. An answer that is not due is told
 * with the promise and the sentence; a refused call is made on an object of its own, and all four
 * planes must be after it what they were before.
 */
final class Sentences {
    /** A call of which no answer is looked at, or a run of calls. */
    interface Act {
        void on(CountedMixer t);
    }

    /** A call that answers true or false. */
    interface Question {
        boolean on(CountedMixer t);
    }

    /** A call with a plane's number. */
    interface PlaneAct {
        void on(CountedMixer t, int plane);
    }

    /** A call with a place. */
    interface PlaceAct {
        void on(CountedMixer t, int x, int y);
    }

    /** Just outside 0 .. 3, and far outside, also where the lowest bits alone are 0 .. 3. */
    private static final int[] NO_PLANES = {
        -1, 4, -2, 5, -4, 7, 256, Integer.MIN_VALUE, Integer.MIN_VALUE + 3, Integer.MAX_VALUE};

    private final Checks checks = new Checks();
    private String heading = "";
    private final Set<String> told = new HashSet<>();

    /** Runs all of them: one that ends by an exception is told, and the others are run all the same. */
    void all(Runnable... tests) {
        for (Runnable test : tests) {
            try {
                test.run();
            } catch (RuntimeException e) {
                due("what the call throws", "nothing", e.toString());
            }
        }
    }

    /** What follows stands beside this sentence: where it is in the document, and its words. */
    void sentence(String where, String words) {
        heading = where + ", \"" + words + "\" -- ";
        told.add(heading);
    }

    void due(String what, long want, long got) {
        checks.due(heading + what, want, got);
    }

    void due(String what, boolean want, boolean got) {
        checks.due(heading + what, want, got);
    }

    void due(String what, String want, String got) {
        checks.due(heading + what, want, got);
    }

    void plane(String what, int[][] want, CountedMixer t, int plane) {
        checks.due(heading + what + ", plane " + plane, Grid.text(want), Grid.of(t, plane));
    }

    /** Four planes, of which two have one size; all samples differ and none is 0. */
    static void four(CountedMixer t) {
        Grid.fill(t, 0, new int[][] {{1, 2, 3}, {4, 5, 6}});
        Grid.fill(t, 1, new int[][] {{11, 12}, {13, 14}, {15, 16}});
        Grid.fill(t, 2, new int[][] {{21, 22, 23}, {24, 25, 26}});
        Grid.fill(t, 3, new int[][] {{255}});
    }

    /** Four planes of 3 by 2 with samples that no mix leaves alone. */
    static void fourOfOneSize(CountedMixer t) {
        for (int plane = 0; plane < 4; plane++) {
            Grid.fill(t, plane, new int[][] {{9 + plane, 200, 33 * plane}, {255 - plane, 70, 1 + plane}});
        }
    }

    void taken(String what, Act before, Act call) {
        CountedMixer t = prepared(before);
        checks.due(heading + what, "nothing", Checks.thrownBy(() -> call.on(t)));
    }

    void taken(String what, Act call) {
        taken(what, Sentences::four, call);
    }

    void thrown(String what, String exception, Act before, Act call) {
        CountedMixer t = prepared(before);
        String old = picture(t);
        checks.due(heading + what, exception, Checks.thrownBy(() -> call.on(t)));
        checks.due(heading + what + " changes nothing", old, picture(t));
    }

    void thrown(String what, String exception, Act call) {
        thrown(what, exception, Sentences::four, call);
    }

    void isTrue(String what, Act before, Question call) {
        CountedMixer t = prepared(before);
        checks.due(heading + what, "1", Checks.told(() -> call.on(t) ? 1 : 0));
    }

    void isFalse(String what, Act before, Question call) {
        CountedMixer t = prepared(before);
        String old = picture(t);
        checks.due(heading + what, "0", Checks.told(() -> call.on(t) ? 1 : 0));
        checks.due(heading + what + " changes nothing", old, picture(t));
    }

    /** Each of the planes 0 .. 3 is taken; any other throws, whatever the rest of the call is. */
    void planes(String call, PlaneAct right, PlaneAct wrong) {
        for (int plane = 0; plane < 4; plane++) {
            int there = plane;
            taken(call + " with plane " + there, t -> right.on(t, there));
        }
        for (int none : NO_PLANES) {
            thrown(call + " with plane " + none, Checks.INDEX, t -> right.on(t, none));
            thrown(call + " with plane " + none + " and more amiss", Checks.INDEX, t -> wrong.on(t, none));
        }
    }

    /** In a plane of w by h each corner is taken; any place beside it throws. */
    void places(String call, int w, int h, Act before, PlaceAct act) {
        for (int[] there : new int[][] {{0, 0}, {w - 1, 0}, {0, h - 1}, {w - 1, h - 1}}) {
            taken(call + " at " + there[0] + " " + there[1], before, t -> act.on(t, there[0], there[1]));
        }
        int[][] none = {
            {-1, 0}, {0, -1}, {-1, h - 1}, {w - 1, -1}, {w, 0}, {0, h}, {w, h - 1}, {w - 1, h}, {-1, -1}, {w, h},
            {-7, 0}, {32, 0}, {0, 32}, {Integer.MIN_VALUE, 0}, {0, Integer.MIN_VALUE},
            {Integer.MAX_VALUE, 0}, {0, Integer.MAX_VALUE}, {-32, 1}, {32, -1}, {1 << 30, 0}, {0, 1 << 27}};
        for (int[] no : none) {
            thrown(call + " at " + no[0] + " " + no[1], Checks.INDEX, before, t -> act.on(t, no[0], no[1]));
        }
    }

    static CountedMixer prepared(Act before) {
        CountedMixer t = new CountedMixer();
        before.on(t);
        return t;
    }

    static String picture(CountedMixer t) {
        StringBuilder text = new StringBuilder();
        for (int plane = 0; plane < 4; plane++) {
            text.append(plane).append(": ").append(Grid.of(t, plane)).append("; ");
        }
        return text.toString();
    }

    void end() {
        System.out.println(told.size() + " sentences");
        checks.end();
    }
}
