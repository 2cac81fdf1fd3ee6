/**
 * "What it is", "The public face" and "Terms": beside each sentence that names a boundary, a case just
 * inside it, one at it and one just outside it. Answers in tables are worked out by hand, but for
 * colours whose sums lie near a multiple of 65536: they and their answers come from a search through
 * all colours by a program apart, with the document's sums typed anew. The weights of OPEN and CLOSE
 * for which there is none showed no such colour.
 */
public final class TermsBoundaryTest {
    private static final int MANY = CountedMixer.MOST;
    private static final Sentences S = new Sentences();

    public static void main(String[] args) {
        S.all(
                TermsBoundaryTest::fiveHundredAndTwelveCalls,
                TermsBoundaryTest::none,
                TermsBoundaryTest::fourPlanes,
                TermsBoundaryTest::sidesOfPlanes,
                TermsBoundaryTest::samples,
                TermsBoundaryTest::fromTheLeftAndFromAbove,
                TermsBoundaryTest::shifted,
                TermsBoundaryTest::limit,
                TermsBoundaryTest::growByBoxes,
                TermsBoundaryTest::growByTriangles,
                TermsBoundaryTest::growAtTheEnds,
                TermsBoundaryTest::growDown,
                TermsBoundaryTest::shrinkAcross,
                TermsBoundaryTest::shrinkDown,
                TermsBoundaryTest::shrinkBoth,
                TermsBoundaryTest::shrinkAtTheEnds,
                TermsBoundaryTest::mixPlaceByPlace,
                TermsBoundaryTest::open,
                TermsBoundaryTest::close,
                TermsBoundaryTest::invert,
                TermsBoundaryTest::darken,
                TermsBoundaryTest::grey,
                TermsBoundaryTest::twoMixes,
                TermsBoundaryTest::darkenNeedsPlane3,
                TermsBoundaryTest::changesNothing,
                TermsBoundaryTest::firstException,
                TermsBoundaryTest::exactException);
        S.end();
    }

    // What it is

    private static void fiveHundredAndTwelveCalls() {
        S.sentence("What it is",
                "An object is used for at most 512 calls after it has been made; what later calls answer is free.");
        // The 511th call changes something and the 512th tells of it; nothing is due of the 513th.
        lastTwo("size", t -> t.size(0, 5, 6), t -> t.look(0, 1), 6);
        lastTwo("put", t -> t.put(0, 1, 1, 255), t -> t.at(0, 1, 1), 255);
        lastTwo("row", t -> t.row(0, 0, 1, 0x0102030405060708L), t -> t.eight(0, 0, 1), 0x0102L << 48);
        lastTwo("grow", t -> t.grow(0, 0), t -> t.look(0, 0), 4);
        lastTwo("shrink", t -> t.shrink(0, 0), t -> t.look(0, 0), 1);
        lastTwo("mix", t -> t.mix(2), t -> t.look(0, 3), 246);
        lastTwo("copy", t -> t.copy(0, 3), t -> t.apart(0, 3), 0);
        lastTwo("extend", t -> t.extend(0, 32, 32), t -> t.look(0, 0), 32);
        lastTwo("cut", t -> t.cut(0, 1, 2), t -> t.look(0, 0), 1);
        lastTwo("grow last", t -> t.look(0, 0), t -> t.grow(0, 4) ? 1 : 0, 1);
        lastTwo("shrink last", t -> t.look(0, 0), t -> t.shrink(0, 2) ? 1 : 0, 1);
        lastTwo("mix last", t -> t.look(0, 0), t -> t.mix(3) ? 1 : 0, 1);
        lastTwo("extend last", t -> t.look(0, 0), t -> t.extend(0, 2, 3) ? 1 : 0, 1);
        lastTwo("cut last", t -> t.look(0, 0), t -> t.cut(0, 1, 1) ? 1 : 0, 1);
    }

    private interface Ask {
        long of(CountedMixer t);
    }

    private static void lastTwo(String what, Sentences.Act next, Ask last, long due) {
        CountedMixer t = new CountedMixer();
        for (int plane = 0; plane < 4; plane++) {
            t.size(plane, 2, 2);
        }
        t.put(0, 0, 0, 9);
        while (t.left() > 2) {
            t.look(0, 2);
        }
        next.on(t);
        S.due(what + ", call " + (MANY - 1) + " and call " + MANY, due, last.of(t));
        S.due("no call is left", 0, t.left());
    }

    // The public face

    private static void none() {
        S.sentence("The public face", "public static final int NONE = -1;");
        S.due("NONE", -1, ToneMixer.NONE);
        S.sentence("Terms", "`NONE = -1`: There is none.");
        CountedMixer t = Sentences.prepared(Sentences::four);
        S.due("apart of two sizes", ToneMixer.NONE, t.apart(0, 1));
        S.due("apart of one size", 20, t.apart(0, 2));
        S.due("look -1", ToneMixer.NONE, t.look(0, -1));
        S.due("look 5", ToneMixer.NONE, t.look(0, 5));
    }

    // Terms

    private static final String PLANES = "There are four PLANES 0 .. 3, each W by H SAMPLES, 1 .. 32 each, "
            + "a sample 0 .. 255 at (x, y), x from the left, y from above.";

    private static void fourPlanes() {
        S.sentence("Terms", PLANES);
        CountedMixer t = Sentences.prepared(Sentences::four);
        S.plane("each its own samples", new int[][] {{1, 2, 3}, {4, 5, 6}}, t, 0);
        S.plane("each its own samples", new int[][] {{11, 12}, {13, 14}, {15, 16}}, t, 1);
        S.plane("each its own samples", new int[][] {{21, 22, 23}, {24, 25, 26}}, t, 2);
        S.plane("each its own samples", new int[][] {{255}}, t, 3);
        S.planes("at", (m, plane) -> m.at(plane, 0, 0), (m, plane) -> m.at(plane, 99, 99));
    }

    private static void sidesOfPlanes() {
        S.sentence("Terms", PLANES);
        for (int w : new int[] {1, 2, 31, 32}) {
            for (int h : new int[] {1, 2, 31, 32}) {
                S.places("at in " + w + " by " + h, w, h, t -> t.size(3, w, h), (t, x, y) -> t.at(3, x, y));
            }
        }
        for (int side : new int[] {0, 33}) {
            S.thrown("W " + side, Checks.ARGUMENT, t -> t.size(3, side, 32));
            S.thrown("H " + side, Checks.ARGUMENT, t -> t.size(3, 32, side));
        }
    }

    private static void samples() {
        S.sentence("Terms", PLANES);
        for (int sample : new int[] {0, 1, 127, 128, 254, 255}) {
            CountedMixer t = Sentences.prepared(Sentences::four);
            t.put(0, 2, 1, sample);
            S.plane("sample " + sample, new int[][] {{1, 2, 3}, {4, 5, sample}}, t, 0);
            S.due("sample " + sample, sample, t.at(0, 2, 1));
        }
        S.thrown("sample -1", Checks.ARGUMENT, t -> t.put(0, 2, 1, -1));
        S.thrown("sample 256", Checks.ARGUMENT, t -> t.put(0, 2, 1, 256));
    }

    private static void fromTheLeftAndFromAbove() {
        S.sentence("Terms", PLANES);
        CountedMixer t = new CountedMixer();
        t.size(0, 3, 2);
        t.put(0, 0, 0, 1);
        t.put(0, 2, 0, 3);
        t.put(0, 0, 1, 4);
        S.plane("corners", new int[][] {{1, 0, 3}, {4, 0, 0}}, t, 0);
        S.due("the first ones are at the left and above", true, t.cut(0, 1, 1));
        S.plane("the first one", new int[][] {{1}}, t, 0);
    }

    // A colour, and what a mix makes of it in one plane.
    private static void mixed(int which, int[][] table) {
        for (int[] line : table) {
            CountedMixer t = new CountedMixer();
            for (int p = 0; p < 3; p++) {
                t.put(p, 0, 0, line[p]);
            }
            String what = "mix " + which + " of " + line[0] + " " + line[1] + " " + line[2] + ", plane " + line[3];
            S.due(what, true, t.mix(which));
            S.due(what, line[4], t.at(line[3], 0, 0));
        }
    }

    private static void shifted() {
        S.sentence("Terms", "SHIFTED(v, s) is v shifted right by s (rounded down).");
        mixed(0, new int[][] {
            // 91881 * q + 32768 just above -64 * 65536, and just below -71 * 65536; above 0: 1.9 is 1.
            {100, 128, 82, 0, 36}, {100, 128, 77, 0, 28}, {100, 128, 129, 0, 101}, {100, 128, 127, 0, 99},
            // The second sum is -48, then 50; then 6 above -97 * 65536, and 18 below -8 * 65536.
            {100, 34, 174, 1, 99}, {100, 117, 134, 1, 100}, {200, 237, 212, 1, 103}, {200, 161, 124, 1, 191},
            // 116130 * p + 32768 just above -120 * 65536, and just below -221 * 65536.
            {200, 60, 128, 2, 80}, {250, 3, 128, 2, 28}, {100, 129, 128, 2, 102}, {100, 127, 128, 2, 98},
        });
        shrinksAcross("by 1", new int[] {0, 0}, new int[] {0});
        shrinksAcross("by 1", new int[] {0, 1}, new int[] {0});
        shrinksAcross("by 1", new int[] {1, 1}, new int[] {1});
        growsAcross("by 2", new int[] {0, 1}, new int[] {0, 0, 1, 1});
        growsAcross("by 2", new int[] {0, 2}, new int[] {0, 1, 1, 2});
    }

    private static void limit() {
        S.sentence("Terms", "LIMIT(v) is v, but 0 if it is below 0, and 255 if it is above 255.");
        mixed(0, new int[][] {
            // The first: a - 1 is -1, 0, 1; a + 1 is 254, 255, 256; then -179, 433.
            {0, 128, 127, 0, 0}, {1, 128, 127, 0, 0}, {2, 128, 127, 0, 1},
            {253, 128, 129, 0, 254}, {254, 128, 129, 0, 255}, {255, 128, 129, 0, 255},
            {0, 128, 0, 0, 0}, {255, 128, 255, 0, 255},
            // The second, with q the other way round; then -134, 390.
            {0, 128, 129, 1, 0}, {1, 128, 129, 1, 0}, {2, 128, 129, 1, 1},
            {253, 128, 127, 1, 254}, {254, 128, 127, 1, 255}, {255, 128, 127, 1, 255},
            {0, 255, 255, 1, 0}, {255, 0, 0, 1, 255},
            // The third: a - 2 is -2, -1, 0, 1; a + 2 is 254, 255, 256, 257; then -227, 480.
            {0, 127, 128, 2, 0}, {1, 127, 128, 2, 0}, {2, 127, 128, 2, 0}, {3, 127, 128, 2, 1},
            {252, 129, 128, 2, 254}, {253, 129, 128, 2, 255}, {254, 129, 128, 2, 255}, {255, 129, 128, 2, 255},
            {0, 0, 128, 2, 0}, {255, 255, 128, 2, 255},
        });
    }

    private static void growByBoxes() {
        S.sentence("Terms", "To GROW ACROSS by boxes: W is twice as much; "
                + "the new (2 * x, y) and (2 * x + 1, y) are the old (x, y).");
        for (int w : new int[] {1, 2, 15, 16}) {
            for (int h : new int[] {1, 32}) {
                int[][] old = Grid.mottled(w, h);
                int[][] due = new int[h][2 * w];
                for (int y = 0; y < h; y++) {
                    for (int x = 0; x < 2 * w; x++) {
                        due[y][x] = old[y][x / 2];
                    }
                }
                grows("boxes " + w + " by " + h, old, 0, due);
            }
        }
    }

    private static void grows(String what, int[][] old, int how, int[][] due) {
        CountedMixer t = new CountedMixer();
        Grid.fill(t, 1, old);
        S.due(what, true, t.grow(1, how));
        S.plane(what, due, t, 1);
    }

    private static void growsAcross(String what, int[] old, int[] due) {
        grows(what, new int[][] {old}, 1, new int[][] {due});
        grows(what + ", two rows", new int[][] {new int[old.length], old}, 1,
                new int[][] {new int[due.length], due});
    }

    // Two old samples and four new ones. In the first three pairs the sum of the third new one is 3, 4,
    // 5, and in the next three that of the second one: one below, at, and one above a multiple of 4.
    private static final int[][][] PAIRS = {
        {{2, 0}, {2, 2, 0, 0}}, {{3, 0}, {3, 2, 1, 0}}, {{4, 0}, {4, 3, 1, 0}},
        {{0, 1}, {0, 0, 1, 1}}, {{0, 2}, {0, 1, 1, 2}}, {{0, 3}, {0, 1, 2, 3}},
        {{255, 0}, {255, 191, 64, 0}}, {{0, 255}, {0, 64, 191, 255}}, {{255, 255}, {255, 255, 255, 255}},
        {{254, 255}, {254, 254, 255, 255}}, {{255, 254}, {255, 255, 254, 254}},
    };

    private static void growByTriangles() {
        S.sentence("Terms", "By triangles: the new (2 * x, y) is SHIFTED(3 * the old (x, y) + the old (x - 1, y) + 1, 2), "
                + "the new (2 * x + 1, y) is SHIFTED(3 * the old (x, y) + the old (x + 1, y) + 2, 2);");
        for (int[][] pair : PAIRS) {
            growsAcross("triangles of " + pair[0][0] + " " + pair[0][1], pair[0], pair[1]);
        }
        growsAcross("triangles of three", new int[] {10, 21, 255}, new int[] {10, 13, 18, 80, 196, 255});
    }

    private static void growAtTheEnds() {
        S.sentence("Terms", "where there is no old (x - 1, y) or (x + 1, y), the old (x, y) itself.");
        for (int sample : new int[] {0, 1, 77, 254, 255}) {
            growsAcross("one alone", new int[] {sample}, new int[] {sample, sample});
        }
        for (int how = 1; how < 6; how += 2) {
            for (int side : new int[] {1, 2, 15, 16}) {
                darkWithinLight("grow " + how + " of " + side, side, how);
            }
        }
        for (int w : new int[] {2, 15, 16}) {
            int[][] old = Grid.mottled(w, 3);
            CountedMixer t = Sentences.prepared(m -> Grid.fill(m, 1, old));
            S.due("triangles " + w, true, t.grow(1, 1));
            for (int y = 0; y < 3; y++) {
                S.due("first of row " + y + " of " + w, old[y][0], t.at(1, 0, y));
                S.due("last of row " + y + " of " + w, old[y][w - 1], t.at(1, 2 * w - 1, y));
            }
        }
    }

    // Samples that were cut off, and those of the rows around, are no neighbours.
    private static void darkWithinLight(String what, int side, int how) {
        CountedMixer t = darkCutFromLight(side);
        S.due(what, true, t.grow(0, how));
        S.due(what + ", the greatest", 0, t.look(0, 4));
    }

    // 32 by 32 samples of 255; of them the first ones are cut out and become 0.
    private static CountedMixer darkCutFromLight(int side) {
        CountedMixer t = new CountedMixer();
        t.put(0, 0, 0, 255);
        S.due("extend", true, t.extend(0, 32, 32));
        S.due("cut", true, t.cut(0, side, side));
        for (int y = 0; y < side; y++) {
            for (int x = 0; x < side; x += Grid.EIGHT) {
                t.row(0, x, y, 0);
            }
        }
        return t;
    }

    private static void growDown() {
        S.sentence("Terms", "To GROW DOWN: likewise with y and H (2 * y takes y - 1 and 1, 2 * y + 1 takes y + 1 and 2).");
        for (int[][] pair : PAIRS) {
            int[][] old = Grid.turned(new int[][] {pair[0], {0, 0}});
            int[][] due = Grid.turned(new int[][] {pair[1], {0, 0, 0, 0}});
            grows("triangles of " + pair[0][0] + " " + pair[0][1], old, 3, due);
        }
        for (int sample : new int[] {0, 1, 77, 254, 255}) {
            grows("one alone", new int[][] {{sample, 0}}, 3, new int[][] {{sample, 0}, {sample, 0}});
        }
        for (int h : new int[] {1, 2, 15, 16}) {
            for (int w : new int[] {1, 32}) {
                int[][] old = Grid.mottled(w, h);
                int[][] due = new int[2 * h][];
                for (int y = 0; y < 2 * h; y++) {
                    due[y] = old[y / 2];
                }
                grows("boxes " + w + " by " + h, old, 2, due);
            }
        }
    }

    private static void shrinks(String what, int[][] old, int how, int[][] due) {
        CountedMixer t = new CountedMixer();
        Grid.fill(t, 2, old);
        S.due(what, true, t.shrink(2, how));
        S.plane(what, due, t, 2);
    }

    private static void shrinksAcross(String what, int[] old, int[] due) {
        shrinks(what, new int[][] {old}, 0, new int[][] {due});
        shrinks(what + ", two rows", new int[][] {new int[old.length], old}, 0,
                new int[][] {new int[due.length], due});
    }

    // Old sides and new ones.
    private static final int[][] HALVES = {{1, 1}, {2, 1}, {3, 2}, {4, 2}, {5, 3}, {30, 15}, {31, 16}, {32, 16}};

    private static int[][] halved(int[][] old, int newW) {
        int[][] due = new int[old.length][newW];
        for (int y = 0; y < old.length; y++) {
            for (int x = 0; x < newW; x++) {
                int last = Math.min(2 * x + 1, old[y].length - 1);
                due[y][x] = (old[y][2 * x] + old[y][last] + x % 2) / 2;
            }
        }
        return due;
    }

    private static int[][] quartered(int[][] old, int newW, int newH) {
        int[][] due = new int[newH][newW];
        for (int y = 0; y < newH; y++) {
            int[] below = old[Math.min(2 * y + 1, old.length - 1)];
            for (int x = 0; x < newW; x++) {
                int last = Math.min(2 * x + 1, below.length - 1);
                int sum = old[2 * y][2 * x] + old[2 * y][last] + below[2 * x] + below[last];
                due[y][x] = (sum + 1 + x % 2) / 4;
            }
        }
        return due;
    }

    // Pairs 0 1, 1 2, 0 0 and 254 255: what an odd x adds is seen where the sum is odd.
    private static final int[] PAIRED = {0, 1, 0, 1, 1, 2, 1, 2, 0, 0, 0, 0, 254, 255, 254, 255, 255, 255, 255, 255};
    private static final int[] PAIRED_DUE = {0, 1, 1, 2, 0, 0, 254, 255, 255, 255};

    private static void shrinkAcross() {
        S.sentence("Terms", "To SHRINK ACROSS: W is half as much, rounded up; "
                + "the new (x, y) is SHIFTED(the old (2 * x, y) + the old (2 * x + 1, y) + x modulo 2, 1).");
        for (int[] half : HALVES) {
            for (int h : new int[] {1, 2, 31, 32}) {
                int[][] old = Grid.mottled(half[0], h);
                shrinks("W " + half[0] + ", H " + h, old, 0, halved(old, half[1]));
            }
        }
        shrinksAcross("pairs", PAIRED, PAIRED_DUE);
        int[] all = new int[32];
        int[] due = new int[16];
        for (int x = 0; x < 16; x++) {
            all[2 * x + 1] = 1;
            due[x] = x % 2;
        }
        shrinks("0 1 all over", new int[][] {all, all, all}, 0, new int[][] {due, due, due});
    }

    private static void shrinkDown() {
        S.sentence("Terms", "DOWN: likewise, + y modulo 2.");
        for (int[] half : HALVES) {
            for (int w : new int[] {1, 2, 31, 32}) {
                int[][] old = Grid.mottled(w, half[0]);
                shrinks("W " + w + ", H " + half[0], old, 1, Grid.turned(halved(Grid.turned(old), half[1])));
            }
        }
        int[][] old = Grid.turned(new int[][] {PAIRED, PAIRED, PAIRED});
        shrinks("pairs", old, 1, Grid.turned(new int[][] {PAIRED_DUE, PAIRED_DUE, PAIRED_DUE}));
    }

    private static void shrinkBoth() {
        S.sentence("Terms", "BOTH: W and H are half as much, rounded up; the new (x, y) is SHIFTED(the four old ones "
                + "(2 * x, 2 * y), (2 * x + 1, 2 * y), (2 * x, 2 * y + 1), (2 * x + 1, 2 * y + 1) + 1 + x modulo 2, 2).");
        for (int[] w : HALVES) {
            for (int[] h : HALVES) {
                int[][] old = Grid.mottled(w[0], h[0]);
                shrinks("W " + w[0] + ", H " + h[0], old, 2, quartered(old, w[1], h[1]));
            }
        }
        // Sums of four 1, 1, 2, 2, 3, 3, 1019, 1019, 1020, 1020, in two rows: an even x adds 1, an odd one 2.
        int[] upper = {0, 0, 0, 0, 1, 0, 1, 0, 1, 1, 1, 1, 255, 255, 255, 255, 255, 255, 255, 255};
        int[] lower = {0, 1, 0, 1, 0, 1, 0, 1, 0, 1, 0, 1, 254, 255, 254, 255, 255, 255, 255, 255};
        int[] due = {0, 0, 0, 1, 1, 1, 255, 255, 255, 255};
        shrinks("sums", new int[][] {upper, lower, upper, lower}, 2, new int[][] {due, due});
        shrinks("sums, the rows changed", new int[][] {lower, upper, lower, upper}, 2, new int[][] {due, due});
    }

    private static void shrinkAtTheEnds() {
        S.sentence("Terms", "Where there is no old one beside or below, that of the last x or y is taken again.");
        shrinks("one", new int[][] {{201}}, 0, new int[][] {{201}});
        shrinks("one", new int[][] {{201}}, 1, new int[][] {{201}});
        shrinks("one", new int[][] {{201}}, 2, new int[][] {{201}});
        shrinks("two across", new int[][] {{10, 201}}, 0, new int[][] {{105}});
        shrinks("three across", new int[][] {{10, 20, 201}, {1, 3, 99}}, 0, new int[][] {{15, 201}, {2, 99}});
        shrinks("two down", new int[][] {{10}, {201}}, 1, new int[][] {{105}});
        shrinks("three down", new int[][] {{10, 1}, {20, 3}, {201, 99}}, 1, new int[][] {{15, 2}, {201, 99}});
        // Beside: 10 10 / 21 21 and below: 10 20 / 10 20, + 1 each; the corner is taken four times.
        shrinks("one by two", new int[][] {{10}, {21}}, 2, new int[][] {{15}});
        shrinks("two by one", new int[][] {{10, 20}}, 2, new int[][] {{15}});
        shrinks("three by three", new int[][] {{0, 4, 40}, {8, 12, 50}, {100, 120, 201}}, 2,
                new int[][] {{6, 45}, {110, 201}});
        for (int how = 0; how < 3; how++) {
            for (int side : new int[] {1, 2, 3, 15, 31}) {
                CountedMixer t = darkCutFromLight(side);
                S.due("shrink " + how + " of " + side, true, t.shrink(0, how));
                S.due("shrink " + how + " of " + side + ", the greatest", 0, t.look(0, 4));
            }
        }
    }

    private static final String MIXES = "MIXES change the samples of planes 0 to 2 (or 3), which have one size, "
            + "place by place; a, b, c, d are the old samples of planes 0 .. 3:";

    // What each mix makes of 255, 0, 0 under 128.
    private static final int[][] OF_255_0_0 = {
        {76, 255, 28}, {76, 85, 255}, {0, 255, 255}, {127, 0, 0}, {76, 76, 76}, {179, 0, 227}, {179, 171, 0}};
    // And of 0, 255, 255 under 128.
    private static final int[][] OF_0_255_255 = {
        {178, 0, 225}, {179, 171, 0}, {255, 0, 0}, {0, 127, 127}, {179, 179, 179}, {77, 255, 30}, {76, 85, 255}};

    private static void mixPlaceByPlace() {
        S.sentence("Terms", MIXES);
        for (int which = 0; which < 7; which++) {
            for (int[] side : new int[][] {{1, 1}, {2, 1}, {1, 2}, {32, 1}, {1, 32}, {31, 31}, {32, 32}}) {
                mixesAllOver(which, side[0], side[1]);
            }
            mixesInTurn(which);
        }
    }

    private static void mixesAllOver(int which, int w, int h) {
        CountedMixer t = new CountedMixer();
        t.put(0, 0, 0, 255);
        t.put(3, 0, 0, 128);
        for (int p = 0; p < 4; p++) {
            S.due("extend", true, t.extend(p, w, h));
        }
        String what = "mix " + which + " all over " + w + " by " + h;
        S.due(what, true, t.mix(which));
        for (int p = 0; p < 4; p++) {
            int due = p == 3 ? 128 : OF_255_0_0[which][p];
            S.due(what + ", W of plane " + p, w, t.look(p, 0));
            S.due(what + ", H of plane " + p, h, t.look(p, 1));
            S.due(what + ", least of plane " + p, due, t.look(p, 3));
            S.due(what + ", greatest of plane " + p, due, t.look(p, 4));
        }
    }

    // Two colours in turn, across and down, so that a place mixed with another one is seen.
    private static void mixesInTurn(int which) {
        CountedMixer t = new CountedMixer();
        int[][][] old = {{{255, 0}, {0, 255}, {255, 0}}, {{0, 255}, {255, 0}, {0, 255}}};
        Grid.fill(t, 0, old[0]);
        Grid.fill(t, 1, old[1]);
        Grid.fill(t, 2, old[1]);
        Grid.fill(t, 3, Grid.all(2, 3, 128));
        S.due("mix " + which + " in turn", true, t.mix(which));
        for (int p = 0; p < 3; p++) {
            int one = OF_255_0_0[which][p];
            int other = OF_0_255_255[which][p];
            S.plane("mix " + which + " in turn", new int[][] {{one, other}, {other, one}, {one, other}}, t, p);
        }
        S.plane("mix " + which + " in turn", Grid.all(2, 3, 128), t, 3);
    }

    private static void open() {
        S.sentence("Terms", "0, OPEN: with p = b - 128, q = c - 128: LIMIT(a + SHIFTED(91881 * q + 32768, 16)); "
                + "LIMIT(a + SHIFTED(-22554 * p - 46802 * q + 32768, 16)); LIMIT(a + SHIFTED(116130 * p + 32768, 16)).");
        // p and q -1, 0 and 1, one at a time.
        mixed(0, new int[][] {
            {100, 128, 128, 0, 100}, {100, 128, 128, 1, 100}, {100, 128, 128, 2, 100},
            {100, 127, 128, 0, 100}, {100, 127, 128, 1, 100}, {100, 127, 128, 2, 98},
            {100, 129, 128, 0, 100}, {100, 129, 128, 1, 100}, {100, 129, 128, 2, 102},
            {100, 128, 127, 0, 99}, {100, 128, 127, 1, 101}, {100, 128, 127, 2, 100},
            {100, 128, 129, 0, 101}, {100, 128, 129, 1, 99}, {100, 128, 129, 2, 100},
            // The least and the greatest of p and q, with an a that keeps the sum within 0 .. 255.
            {179, 128, 0, 0, 0}, {77, 128, 255, 0, 255}, {134, 255, 255, 1, 0}, {120, 0, 0, 1, 255},
            {227, 0, 128, 2, 0}, {30, 255, 128, 2, 255},
            // A weight that is greater or less by one would be seen.
            {247, 100, 173, 1, 224}, {254, 220, 251, 1, 134}, {235, 78, 178, 1, 217}, {250, 188, 167, 1, 201},
            {254, 3, 127, 2, 32},
        });
    }

    private static void close() {
        S.sentence("Terms", "1, CLOSE: SHIFTED(19595 * a + 38470 * b + 7471 * c + 32768, 16); "
                + "SHIFTED(-11059 * a - 21709 * b + 32768 * c + 8421375, 16); "
                + "SHIFTED(32768 * a - 27439 * b - 5329 * c + 8421375, 16).");
        mixed(1, new int[][] {
            // Sums that are a multiple of 65536, and one less than such a one.
            {10, 62, 194, 0, 62}, {10, 72, 239, 0, 72}, {10, 10, 11, 1, 128}, {10, 11, 11, 2, 127},
            // The least and the greatest that each can be, and greys.
            {0, 0, 0, 0, 0}, {255, 255, 255, 0, 255}, {255, 255, 0, 1, 0}, {0, 0, 255, 1, 255},
            {0, 255, 255, 2, 0}, {255, 0, 0, 2, 255},
            {0, 0, 0, 1, 128}, {0, 0, 0, 2, 128}, {255, 255, 255, 1, 128}, {255, 255, 255, 2, 128},
            {1, 1, 1, 0, 1}, {254, 254, 254, 0, 254}, {1, 1, 1, 1, 128}, {254, 254, 254, 2, 128},
            // A weight that is greater or less by one would be seen.
            {253, 124, 62, 0, 156}, {253, 171, 241, 0, 203}, {251, 96, 150, 0, 149}, {251, 150, 100, 0, 174},
            {251, 49, 85, 0, 114}, {251, 95, 199, 0, 153}, {6, 58, 190, 0, 58}, {3, 65, 232, 0, 65},
            {253, 173, 149, 1, 103}, {248, 248, 69, 1, 38}, {253, 173, 5, 1, 31}, {252, 252, 167, 1, 85},
            {254, 94, 175, 1, 142}, {248, 248, 119, 1, 63}, {250, 250, 77, 1, 41},
            {251, 132, 9, 2, 198}, {254, 234, 191, 2, 141}, {252, 135, 12, 2, 197}, {252, 230, 187, 2, 142},
            {252, 12, 178, 2, 235}, {251, 102, 225, 2, 192}, {250, 77, 77, 2, 214},
        });
    }

    private static void invert() {
        S.sentence("Terms", "2, INVERT: 255 - a, 255 - b, 255 - c (plane 3 stays).");
        int[] samples = {0, 1, 2, 127, 128, 253, 254, 255};
        for (int v : samples) {
            mixed(2, new int[][] {{v, 7, 7, 0, 255 - v}, {7, v, 7, 1, 255 - v}, {7, 7, v, 2, 255 - v}});
        }
        CountedMixer t = new CountedMixer();
        Grid.fill(t, 3, new int[][] {samples});
        S.due("invert", true, t.mix(2));
        S.plane("invert", new int[][] {samples}, t, 3);
    }

    private static void darken() {
        S.sentence("Terms", "3, DARKEN: a, b, c become (a * (255 - d) + 127) / 255, likewise b, c (rounded down); "
                + "plane 3 stays.");
        // A sample, d, and what is due.
        int[][] table = {
            {0, 0, 0}, {1, 0, 1}, {254, 0, 254}, {255, 0, 255}, {0, 255, 0}, {1, 255, 0}, {255, 255, 0},
            // 254, 255, 256 are divided; then 509 and 511; then 254, 255 and 382.
            {1, 128, 0}, {1, 127, 1}, {1, 126, 1}, {2, 64, 1}, {2, 63, 2},
            {127, 254, 0}, {128, 254, 1}, {255, 254, 1}, {255, 1, 254}, {128, 1, 127}, {127, 1, 127},
        };
        for (int[] line : table) {
            for (int p = 0; p < 3; p++) {
                CountedMixer t = new CountedMixer();
                t.put(p, 0, 0, line[0]);
                t.put(3, 0, 0, line[1]);
                String what = "plane " + p + ": " + line[0] + " under " + line[1];
                S.due(what, true, t.mix(3));
                S.due(what, line[2], t.at(p, 0, 0));
                S.due(what + ", another", 0, t.at((p + 1) % 3, 0, 0));
                S.due(what + ", plane 3", line[1], t.at(3, 0, 0));
            }
        }
    }

    private static void grey() {
        S.sentence("Terms", "4, GREY: all three become SHIFTED(19595 * a + 38470 * b + 7471 * c + 32768, 16).");
        int[][] table = {
            {0, 0, 0, 0}, {1, 1, 1, 1}, {254, 254, 254, 254}, {255, 255, 255, 255},
            {10, 62, 194, 62}, {10, 72, 239, 72}, {255, 0, 0, 76}, {0, 255, 0, 150}, {0, 0, 255, 29},
            {6, 58, 190, 58}, {3, 65, 232, 65}, {253, 124, 62, 156}};
        for (int[] line : table) {
            for (int p = 0; p < 3; p++) {
                mixed(4, new int[][] {{line[0], line[1], line[2], p, line[3]}});
            }
        }
    }

    private static void twoMixes() {
        S.sentence("Terms", "5, OPEN and then INVERT; 6, INVERT and then CLOSE.");
        mixed(5, new int[][] {
            // Limited at 0 and at 255 before it is inverted.
            {0, 128, 127, 0, 255}, {1, 128, 127, 0, 255}, {2, 128, 127, 0, 254},
            {253, 128, 129, 0, 1}, {254, 128, 129, 0, 0}, {255, 128, 129, 0, 0},
            {0, 255, 255, 0, 77}, {0, 255, 255, 1, 255}, {0, 255, 255, 2, 30},
        });
        mixed(6, new int[][] {
            {255, 255, 255, 0, 0}, {0, 0, 0, 0, 255}, {255, 255, 255, 1, 128}, {0, 0, 0, 2, 128},
            {0, 255, 255, 0, 76}, {0, 255, 255, 1, 85}, {0, 255, 255, 2, 255},
            {255, 0, 0, 1, 171}, {0, 0, 255, 1, 0}, {255, 255, 0, 1, 255},
        });
    }

    private static void darkenNeedsPlane3() {
        S.sentence("Terms", "For 3 plane 3 has this size, too.");
        for (int which = 0; which < 7; which++) {
            int mix = which;
            S.isTrue("mix " + mix + ", plane 3 of 3 by 2", Sentences::fourOfOneSize, t -> t.mix(mix));
            for (int[] side : new int[][] {{2, 2}, {4, 2}, {3, 1}, {3, 3}, {2, 3}, {1, 1}, {32, 32}}) {
                String what = "mix " + mix + ", plane 3 of " + side[0] + " by " + side[1];
                Sentences.Act before = t -> {
                    Sentences.fourOfOneSize(t);
                    t.size(3, side[0], side[1]);
                };
                if (mix == 3) {
                    S.isFalse(what, before, t -> t.mix(mix));
                } else {
                    S.isTrue(what, before, t -> t.mix(mix));
                }
            }
        }
    }

    // Every kind of refused call on one object, and then calls that show all of its state: a twin that
    // was spared the refused ones answers alike.
    private static void changesNothing() {
        S.sentence("Terms", "What throws, or answers false, changes nothing.");
        CountedMixer tried = Sentences.prepared(TermsBoundaryTest::fourWithHighOne);
        CountedMixer spared = Sentences.prepared(TermsBoundaryTest::fourWithHighOne);
        String old = Sentences.picture(spared);
        for (Sentences.Act call : refused()) {
            Checks.thrownBy(() -> call.on(tried));
        }
        S.due("after all refused calls", old, Sentences.picture(tried));
        for (Sentences.Act call : telling()) {
            call.on(tried);
            call.on(spared);
            S.due("the same afterwards", Sentences.picture(spared), Sentences.picture(tried));
        }
    }

    // Plane 3 could grow across, but not down.
    private static void fourWithHighOne(CountedMixer t) {
        Sentences.four(t);
        Grid.fill(t, 3, Grid.mottled(1, 17));
    }

    private static Sentences.Act[] refused() {
        return new Sentences.Act[] {
            t -> t.size(4, 2, 2), t -> t.size(0, 0, 2), t -> t.size(0, 2, 33),
            t -> t.put(4, 0, 0, 9), t -> t.put(0, 3, 0, 9), t -> t.put(0, 0, 2, 9), t -> t.put(0, 0, 0, 256),
            t -> t.row(-1, 0, 0, -1L), t -> t.row(0, -1, 0, -1L), t -> t.row(0, 3, 0, -1L), t -> t.row(0, 0, 2, -1L),
            t -> t.grow(4, 4), t -> t.grow(0, -1), t -> t.grow(0, 6),
            t -> t.grow(3, 2), t -> t.grow(3, 3), t -> t.grow(3, 4), t -> t.grow(3, 5),
            t -> t.shrink(4, 2), t -> t.shrink(0, -1), t -> t.shrink(0, 3),
            t -> t.mix(-1), t -> t.mix(0), t -> t.mix(3), t -> t.mix(6), t -> t.mix(7),
            t -> t.copy(4, 0), t -> t.copy(0, 4), t -> t.copy(-1, 3),
            t -> t.extend(4, 9, 9), t -> t.extend(0, 2, 9), t -> t.extend(0, 9, 1), t -> t.extend(0, 33, 9),
            t -> t.extend(0, 9, 33), t -> t.cut(4, 1, 1), t -> t.cut(0, 0, 1), t -> t.cut(0, 1, 0),
            t -> t.cut(0, 4, 1), t -> t.cut(0, 1, 3), t -> t.at(4, 0, 0), t -> t.at(0, 3, 0), t -> t.at(0, 0, 2),
            t -> t.eight(4, 0, 0), t -> t.apart(4, 0), t -> t.apart(0, 4), t -> t.look(4, 0),
        };
    }

    private static Sentences.Act[] telling() {
        return new Sentences.Act[] {
            t -> t.extend(0, 4, 4), t -> t.grow(1, 5), t -> t.shrink(2, 2), t -> t.copy(0, 1), t -> t.copy(0, 2),
            t -> t.mix(1), t -> t.cut(1, 2, 2), t -> t.grow(3, 1),
        };
    }

    private static void firstException() {
        S.sentence("Terms", "Of several exceptions the first one listed is thrown.");
        S.thrown("size: no plane, w 0", Checks.INDEX, t -> t.size(-1, 0, 1));
        S.thrown("size: no plane, h 33", Checks.INDEX, t -> t.size(4, 1, 33));
        S.thrown("size: no plane, w and h", Checks.INDEX, t -> t.size(4, 33, 0));
        S.thrown("put: no plane, no value", Checks.INDEX, t -> t.put(-1, 0, 0, 256));
        S.thrown("put: no plane, no value", Checks.INDEX, t -> t.put(4, 0, 0, -1));
        S.thrown("put: no x, no value", Checks.INDEX, t -> t.put(0, 3, 0, -1));
        S.thrown("put: no x, no value", Checks.INDEX, t -> t.put(0, -1, 0, 256));
        S.thrown("put: no y, no value", Checks.INDEX, t -> t.put(0, 0, 2, 256));
        S.thrown("put: no y, no value", Checks.INDEX, t -> t.put(0, 0, -1, -1));
        S.thrown("size: w 0 alone", Checks.ARGUMENT, t -> t.size(0, 0, 1));
        S.thrown("put: no value alone", Checks.ARGUMENT, t -> t.put(0, 2, 1, 256));
    }

    private static void exactException() {
        S.sentence("Terms", "IndexOutOfBoundsException is for a plane, or a sample, that there is not.");
        S.planes("row", (t, plane) -> t.row(plane, 0, 0, 0), (t, plane) -> t.row(plane, -1, 40, 0));
        S.places("at", 3, 2, Sentences::four, (t, x, y) -> t.at(0, x, y));
        // Of a plane and places that there are, nothing else is for it.
        S.thrown("size", Checks.ARGUMENT, t -> t.size(0, 33, 33));
        S.thrown("put", Checks.ARGUMENT, t -> t.put(0, 0, 0, 1000));
        S.isFalse("grow", Sentences::four, t -> t.grow(0, 99));
        S.isFalse("shrink", Sentences::four, t -> t.shrink(0, 99));
        S.isFalse("mix", Sentences::four, t -> t.mix(99));
        S.isFalse("extend", Sentences::four, t -> t.extend(0, 99, 99));
        S.isFalse("cut", Sentences::four, t -> t.cut(0, 99, 99));
        S.taken("eight", t -> t.eight(0, 99, 99));
        S.taken("look", t -> t.look(0, 99));
    }
}
