/** Each promise of the document by written answers, worked out by hand. */
public final class PromisesTest {
    private static final int[] NO_PLANES = {-1, 4, 5, Integer.MIN_VALUE, Integer.MAX_VALUE};
    private static final Checks CHECKS = new Checks();

    public static void main(String[] args) {
        newObject();
        size();
        put();
        row();
        growByBoxes();
        growByTriangles();
        growRefused();
        shrinkAcross();
        shrinkDown();
        shrinkBoth();
        shrinkRefused();
        mixOpen();
        mixClose();
        mixInvert();
        mixDarken();
        mixGrey();
        mixTwice();
        mixRefused();
        copy();
        extend();
        cut();
        at();
        eight();
        apart();
        look();
        CHECKS.end();
    }

    // Promise 1
    private static void newObject() {
        CountedMixer t = new CountedMixer();
        for (int p = 0; p < 4; p++) {
            is("new", t, p, new int[][] {{0}});
        }
    }

    // Promise 2
    private static void size() {
        CountedMixer t = new CountedMixer();
        t.size(2, 32, 32);
        is("size 32 by 32", t, 2, new int[32][32]);
        is("size of another", t, 1, new int[][] {{0}});
        t.put(2, 31, 31, 9);
        t.put(2, 1, 0, 8);
        t.size(2, 3, 2);
        is("size 3 by 2", t, 2, new int[2][3]);
        t.size(2, 32, 32);
        is("size again", t, 2, new int[32][32]);
        t.put(2, 4, 5, 7);
        t.size(2, 32, 32);
        is("the same size", t, 2, new int[32][32]);

        CountedMixer s = filled(0, new int[][] {{1, 2}, {3, 4}});
        for (int bad : new int[] {0, -1, 33, Integer.MIN_VALUE, Integer.MAX_VALUE}) {
            CHECKS.dueThrow("size w " + bad, Checks.ARGUMENT, () -> s.size(0, bad, 1));
            CHECKS.dueThrow("size h " + bad, Checks.ARGUMENT, () -> s.size(0, 1, bad));
        }
        for (int plane : NO_PLANES) {
            CHECKS.dueThrow("size of " + plane, Checks.INDEX, () -> s.size(plane, 1, 1));
            CHECKS.dueThrow("size of " + plane + ", bad", Checks.INDEX, () -> s.size(plane, 0, 33));
        }
        is("size refused", s, 0, new int[][] {{1, 2}, {3, 4}});
    }

    // Promise 3
    private static void put() {
        CountedMixer t = new CountedMixer();
        t.size(3, 3, 2);
        t.put(3, 2, 0, 255);
        t.put(3, 0, 1, 1);
        t.put(3, 2, 1, 128);
        is("put", t, 3, new int[][] {{0, 0, 255}, {1, 0, 128}});
        t.put(3, 2, 0, 0);
        is("put 0", t, 3, new int[][] {{0, 0, 0}, {1, 0, 128}});
        for (int bad : new int[] {-1, 256, Integer.MIN_VALUE, Integer.MAX_VALUE}) {
            CHECKS.dueThrow("put " + bad, Checks.ARGUMENT, () -> t.put(3, 0, 0, bad));
            CHECKS.dueThrow("put " + bad + " nowhere", Checks.INDEX, () -> t.put(3, 3, 0, bad));
        }
        for (int plane : NO_PLANES) {
            CHECKS.dueThrow("put in " + plane, Checks.INDEX, () -> t.put(plane, 0, 0, 1));
            CHECKS.dueThrow("put in " + plane + ", bad", Checks.INDEX, () -> t.put(plane, 0, 0, 256));
        }
        for (int[] no : nowhere(3, 2)) {
            CHECKS.dueThrow("put at " + no[0] + " " + no[1], Checks.INDEX, () -> t.put(3, no[0], no[1], 1));
        }
        is("put refused", t, 3, new int[][] {{0, 0, 0}, {1, 0, 128}});
    }

    // Promise 4
    private static void row() {
        CountedMixer t = new CountedMixer();
        t.size(0, 10, 2);
        t.row(0, 1, 0, 0xFF01020304058007L);
        is("row", t, 0, new int[][] {{0, 255, 1, 2, 3, 4, 5, 128, 7, 0}, new int[10]});
        t.row(0, 7, 0, 0x1112131415161718L);
        is("row over the end", t, 0, new int[][] {{0, 255, 1, 2, 3, 4, 5, 0x11, 0x12, 0x13}, new int[10]});
        t.row(0, 9, 1, 0x9900000000000000L);
        is("row at the end", t, 0,
                new int[][] {{0, 255, 1, 2, 3, 4, 5, 0x11, 0x12, 0x13}, {0, 0, 0, 0, 0, 0, 0, 0, 0, 0x99}});
        for (int plane : NO_PLANES) {
            CHECKS.dueThrow("row in " + plane, Checks.INDEX, () -> t.row(plane, 0, 0, -1L));
        }
        for (int[] no : nowhere(10, 2)) {
            CHECKS.dueThrow("row at " + no[0] + " " + no[1], Checks.INDEX, () -> t.row(0, no[0], no[1], -1L));
        }
        is("row refused", t, 0,
                new int[][] {{0, 255, 1, 2, 3, 4, 5, 0x11, 0x12, 0x13}, {0, 0, 0, 0, 0, 0, 0, 0, 0, 0x99}});
    }

    // Promise 5
    private static void growByBoxes() {
        int[][] old = {{1, 2}, {30, 255}};
        grows("boxes across", old, 0, new int[][] {{1, 1, 2, 2}, {30, 30, 255, 255}});
        grows("boxes down", old, 2, new int[][] {{1, 2}, {1, 2}, {30, 255}, {30, 255}});
        grows("boxes both", old, 4,
                new int[][] {{1, 1, 2, 2}, {1, 1, 2, 2}, {30, 30, 255, 255}, {30, 30, 255, 255}});
    }

    // (3 * 10 + 21 + 2) >> 2 = 13, (3 * 21 + 10 + 1) >> 2 = 18, (3 * 21 + 255 + 2) >> 2 = 80,
    // (3 * 255 + 21 + 1) >> 2 = 196.
    private static void growByTriangles() {
        grows("triangles across", new int[][] {{10, 21, 255}}, 1, new int[][] {{10, 13, 18, 80, 196, 255}});
        grows("triangles down", new int[][] {{10}, {21}, {255}}, 3,
                new int[][] {{10}, {13}, {18}, {80}, {196}, {255}});
        grows("triangles of one", new int[][] {{77}}, 5, new int[][] {{77, 77}, {77, 77}});
        // Across first the rows are 0 0 0 0 and 0 1 1 2; down first the inner rows would be 0 0 1 1.
        grows("triangles both", new int[][] {{0, 0}, {0, 2}}, 5,
                new int[][] {{0, 0, 0, 0}, {0, 0, 0, 1}, {0, 1, 1, 1}, {0, 1, 1, 2}});
        grows("triangles both, greater", new int[][] {{0, 1}, {2, 19}}, 5,
                new int[][] {{0, 0, 1, 1}, {1, 2, 5, 6}, {1, 4, 11, 14}, {2, 6, 15, 19}});
    }

    private static void growRefused() {
        CountedMixer t = filled(0, new int[][] {{5, 9}, {7, 1}});
        for (int how : new int[] {-1, -2, 6, 7, Integer.MIN_VALUE, Integer.MAX_VALUE}) {
            CHECKS.due("grow how " + how, false, t.grow(0, how));
        }
        is("grow refused", t, 0, new int[][] {{5, 9}, {7, 1}});
        for (int plane : NO_PLANES) {
            CHECKS.dueThrow("grow " + plane, Checks.INDEX, () -> t.grow(plane, 0));
            CHECKS.dueThrow("grow " + plane + " badly", Checks.INDEX, () -> t.grow(plane, 6));
        }
        for (int by = 0; by < 2; by++) {
            growAtTheEdge(by);
        }
    }

    private static void growAtTheEdge(int by) {
        CountedMixer t = new CountedMixer();
        t.size(0, 17, 16);
        t.size(1, 16, 17);
        t.size(2, 16, 16);
        CHECKS.due("grow 17 across", false, t.grow(0, by));
        CHECKS.due("grow 17 by 16 both", false, t.grow(0, 4 + by));
        is("grow too wide", t, 0, new int[16][17]);
        CHECKS.due("grow 17 down", false, t.grow(1, 2 + by));
        CHECKS.due("grow 16 by 17 both", false, t.grow(1, 4 + by));
        is("grow too high", t, 1, new int[17][16]);
        CHECKS.due("grow 17 by 16 down", true, t.grow(0, 2 + by));
        is("grow 17 by 16 down", t, 0, new int[32][17]);
        CHECKS.due("grow 16 by 17 across", true, t.grow(1, by));
        is("grow 16 by 17 across", t, 1, new int[17][32]);
        CHECKS.due("grow 16 by 16 both", true, t.grow(2, 4 + by));
        is("grow 16 by 16 both", t, 2, new int[32][32]);
    }

    // Promise 6
    private static void shrinkAcross() {
        // (1 + 4 + 0) >> 1, (3 + 4 + 1) >> 1, (254 + 255 + 0) >> 1, (9 + 9 + 1) >> 1
        shrinks("shrink across", new int[][] {{1, 4, 3, 4, 254, 255, 9}, {0, 1, 0, 1, 0, 1, 8}}, 0,
                new int[][] {{2, 4, 254, 9}, {0, 1, 0, 8}});
        shrinks("shrink one across", new int[][] {{5}, {6}}, 0, new int[][] {{5}, {6}});
    }

    private static void shrinkDown() {
        shrinks("shrink down", new int[][] {{1, 0}, {4, 1}, {3, 0}, {4, 1}, {255, 7}}, 1,
                new int[][] {{2, 0}, {4, 1}, {255, 7}});
        shrinks("shrink one down", new int[][] {{5, 6}}, 1, new int[][] {{5, 6}});
    }

    private static void shrinkBoth() {
        // The sums are 6 and 6 above, + 1 and + 2; below, the last row is taken twice: 14 and 34.
        shrinks("shrink both", new int[][] {{0, 2, 0, 1}, {2, 2, 2, 3}, {3, 4, 9, 8}}, 2,
                new int[][] {{1, 2}, {3, 9}});
        // 10 10 / 11 11 + 1 is 43; 6 6 / 6 6 + 1 is 25.
        shrinks("shrink both, odd", new int[][] {{10}, {11}, {6}}, 2, new int[][] {{10}, {6}});
        shrinks("shrink one", new int[][] {{200}}, 2, new int[][] {{200}});
        shrinks("shrink both, wide", new int[][] {{0, 1, 0, 1, 0, 1}}, 2, new int[][] {{0, 1, 0}});
        // y does not add to the sum: (0 + 1 + 0 + 1 + 1) >> 2 in either row.
        shrinks("shrink both, high", new int[][] {{0, 1}, {0, 1}, {0, 1}, {0, 1}}, 2, new int[][] {{0}, {0}});
    }

    private static void shrinkRefused() {
        CountedMixer t = filled(1, new int[][] {{5, 9}, {7, 1}});
        for (int how : new int[] {-1, 3, 4, Integer.MIN_VALUE, Integer.MAX_VALUE}) {
            CHECKS.due("shrink how " + how, false, t.shrink(1, how));
        }
        is("shrink refused", t, 1, new int[][] {{5, 9}, {7, 1}});
        for (int plane : NO_PLANES) {
            CHECKS.dueThrow("shrink " + plane, Checks.INDEX, () -> t.shrink(plane, 0));
            CHECKS.dueThrow("shrink " + plane + " badly", Checks.INDEX, () -> t.shrink(plane, 3));
        }
    }

    // Promise 7
    private static void mixOpen() {
        mixes(0, new int[] {128, 128, 128, 9}, new int[] {128, 128, 128, 9});
        mixes(0, new int[] {76, 85, 255, 9}, new int[] {254, 0, 0, 9});
        mixes(0, new int[] {0, 255, 255, 9}, new int[] {178, 0, 225, 9});
        mixes(0, new int[] {255, 0, 0, 9}, new int[] {76, 255, 28, 9});
        // p = 1, q = -1: -59113, 57016 and 148898 are shifted; the first is rounded down to -1.
        mixes(0, new int[] {100, 129, 127, 9}, new int[] {99, 100, 102, 9});
    }

    private static void mixClose() {
        mixes(1, new int[] {0, 0, 0, 9}, new int[] {0, 128, 128, 9});
        mixes(1, new int[] {255, 255, 255, 9}, new int[] {255, 128, 128, 9});
        mixes(1, new int[] {255, 0, 0, 9}, new int[] {76, 85, 255, 9});
        mixes(1, new int[] {0, 255, 0, 9}, new int[] {150, 44, 21, 9});
        mixes(1, new int[] {0, 0, 255, 9}, new int[] {29, 255, 107, 9});
        mixes(1, new int[] {255, 255, 0, 9}, new int[] {226, 0, 149, 9});
    }

    private static void mixInvert() {
        mixes(2, new int[] {0, 100, 255, 9}, new int[] {255, 155, 0, 9});
    }

    private static void mixDarken() {
        mixes(3, new int[] {0, 100, 255, 0}, new int[] {0, 100, 255, 0});
        mixes(3, new int[] {0, 100, 255, 255}, new int[] {0, 0, 0, 255});
        // 200 * 127 + 127 = 25527 is 100 * 255 + 27; 1 * 127 + 127 = 254 is below 255; 3 * 127 + 127 = 508.
        mixes(3, new int[] {200, 1, 3, 128}, new int[] {100, 0, 1, 128});
        mixes(3, new int[] {1, 2, 255, 127}, new int[] {1, 1, 128, 127});
    }

    private static void mixGrey() {
        mixes(4, new int[] {255, 0, 0, 9}, new int[] {76, 76, 76, 9});
        mixes(4, new int[] {0, 255, 0, 9}, new int[] {150, 150, 150, 9});
        mixes(4, new int[] {0, 0, 255, 9}, new int[] {29, 29, 29, 9});
        mixes(4, new int[] {255, 255, 255, 9}, new int[] {255, 255, 255, 9});
    }

    private static void mixTwice() {
        mixes(5, new int[] {0, 255, 255, 9}, new int[] {77, 255, 30, 9});
        mixes(5, new int[] {76, 85, 255, 9}, new int[] {1, 255, 255, 9});
        mixes(6, new int[] {0, 255, 255, 9}, new int[] {76, 85, 255, 9});
        mixes(6, new int[] {255, 255, 0, 9}, new int[] {29, 255, 107, 9});
    }

    private static void mixRefused() {
        CountedMixer t = new CountedMixer();
        for (int which : new int[] {-1, 7, 8, Integer.MIN_VALUE, Integer.MAX_VALUE}) {
            CHECKS.due("mix " + which, false, t.mix(which));
            is("mix " + which, t, 0, new int[][] {{0}});
        }
        for (int which = 0; which < 7; which++) {
            for (int plane = 0; plane < 4; plane++) {
                mixOfTwoSizes(which, plane, 1, 2);
                mixOfTwoSizes(which, plane, 2, 1);
            }
        }
    }

    private static void mixOfTwoSizes(int which, int plane, int w, int h) {
        CountedMixer t = new CountedMixer();
        t.size(plane, w, h);
        boolean due = plane == 3 && which != 3;
        CHECKS.due("mix " + which + " with plane " + plane + " of " + w + " by " + h, due, t.mix(which));
        is("the odd one", t, plane, new int[h][w]);
        if (!due) {
            is("the others", t, plane == 0 ? 1 : 0, new int[][] {{0}});
        }
    }

    // Promise 8
    private static void copy() {
        CountedMixer t = filled(0, new int[][] {{1, 2, 3}, {4, 5, 6}});
        t.size(3, 32, 32);
        t.copy(0, 3);
        is("copy", t, 3, new int[][] {{1, 2, 3}, {4, 5, 6}});
        is("copied", t, 0, new int[][] {{1, 2, 3}, {4, 5, 6}});
        t.put(3, 0, 0, 99);
        t.put(0, 1, 1, 98);
        is("copy changed", t, 3, new int[][] {{99, 2, 3}, {4, 5, 6}});
        is("copied changed", t, 0, new int[][] {{1, 2, 3}, {4, 98, 6}});
        t.copy(3, 3);
        is("copy to itself", t, 3, new int[][] {{99, 2, 3}, {4, 5, 6}});
        t.copy(1, 0);
        is("copy of a small one", t, 0, new int[][] {{0}});
        for (int plane : NO_PLANES) {
            CHECKS.dueThrow("copy " + plane + " 3", Checks.INDEX, () -> t.copy(plane, 3));
            CHECKS.dueThrow("copy 0 " + plane, Checks.INDEX, () -> t.copy(0, plane));
            CHECKS.dueThrow("copy twice " + plane, Checks.INDEX, () -> t.copy(plane, plane));
        }
        is("copy refused", t, 3, new int[][] {{99, 2, 3}, {4, 5, 6}});
    }

    // Promise 9
    private static void extend() {
        CountedMixer t = filled(0, new int[][] {{1, 2}, {3, 4}});
        CHECKS.due("extend", true, t.extend(0, 4, 3));
        is("extend", t, 0, new int[][] {{1, 2, 2, 2}, {3, 4, 4, 4}, {3, 4, 4, 4}});
        CHECKS.due("extend by nothing", true, t.extend(0, 4, 3));
        CHECKS.due("extend across", true, t.extend(0, 5, 3));
        CHECKS.due("extend down", true, t.extend(0, 5, 4));
        int[][] all = {{1, 2, 2, 2, 2}, {3, 4, 4, 4, 4}, {3, 4, 4, 4, 4}, {3, 4, 4, 4, 4}};
        is("extend thrice", t, 0, all);
        int[][] bad = {{4, 4}, {5, 3}, {4, 32}, {32, 3}, {33, 4}, {5, 33}, {0, 4}, {5, 0}, {-1, -1},
            {Integer.MAX_VALUE, Integer.MAX_VALUE}, {Integer.MIN_VALUE, 4}, {5, Integer.MIN_VALUE}};
        for (int[] to : bad) {
            CHECKS.due("extend to " + to[0] + " " + to[1], false, t.extend(0, to[0], to[1]));
        }
        is("extend refused", t, 0, all);
        // What a cut left behind must not come back.
        CHECKS.due("cut", true, t.cut(0, 1, 1));
        CHECKS.due("extend to the most", true, t.extend(0, 32, 32));
        CHECKS.due("the sum of ones", 1024, t.look(0, 2));
        for (int plane : NO_PLANES) {
            CHECKS.dueThrow("extend " + plane, Checks.INDEX, () -> t.extend(plane, 2, 2));
            CHECKS.dueThrow("extend " + plane + " badly", Checks.INDEX, () -> t.extend(plane, 0, 33));
        }
    }

    // Promise 10
    private static void cut() {
        CountedMixer t = filled(2, new int[][] {{1, 2, 3}, {4, 5, 6}, {7, 8, 9}});
        CHECKS.due("cut to the same", true, t.cut(2, 3, 3));
        is("cut to the same", t, 2, new int[][] {{1, 2, 3}, {4, 5, 6}, {7, 8, 9}});
        CHECKS.due("cut", true, t.cut(2, 2, 3));
        is("cut", t, 2, new int[][] {{1, 2}, {4, 5}, {7, 8}});
        int[][] bad = {{0, 1}, {1, 0}, {-1, 1}, {1, -1}, {3, 3}, {2, 4}, {3, 1}, {1, 4},
            {Integer.MAX_VALUE, 1}, {1, Integer.MIN_VALUE}};
        for (int[] to : bad) {
            CHECKS.due("cut to " + to[0] + " " + to[1], false, t.cut(2, to[0], to[1]));
        }
        is("cut refused", t, 2, new int[][] {{1, 2}, {4, 5}, {7, 8}});
        CHECKS.due("cut down", true, t.cut(2, 2, 1));
        is("cut down", t, 2, new int[][] {{1, 2}});
        for (int plane : NO_PLANES) {
            CHECKS.dueThrow("cut " + plane, Checks.INDEX, () -> t.cut(plane, 1, 1));
            CHECKS.dueThrow("cut " + plane + " badly", Checks.INDEX, () -> t.cut(plane, 0, 0));
        }
    }

    // Promise 11
    private static void at() {
        CountedMixer t = filled(1, new int[][] {{1, 2, 255}, {4, 5, 128}});
        CHECKS.due("at 2 0", 255, t.at(1, 2, 0));
        CHECKS.due("at 0 1", 4, t.at(1, 0, 1));
        CHECKS.due("at 2 1", 128, t.at(1, 2, 1));
        for (int plane : NO_PLANES) {
            CHECKS.dueThrow("at of " + plane, Checks.INDEX, () -> t.at(plane, 0, 0));
        }
        for (int[] no : nowhere(3, 2)) {
            CHECKS.dueThrow("at " + no[0] + " " + no[1], Checks.INDEX, () -> t.at(1, no[0], no[1]));
        }
    }

    // Promise 12
    private static void eight() {
        CountedMixer t = new CountedMixer();
        t.size(0, 10, 2);
        t.row(0, 0, 1, 0xF102030405060708L);
        t.row(0, 8, 1, 0x090A000000000000L);
        CHECKS.due("eight 0 0", 0L, t.eight(0, 0, 0));
        CHECKS.due("eight 0 1", 0xF102030405060708L, t.eight(0, 0, 1));
        CHECKS.due("eight 2 1", 0x030405060708090AL, t.eight(0, 2, 1));
        CHECKS.due("eight 5 1", 0x060708090A000000L, t.eight(0, 5, 1));
        CHECKS.due("eight 9 1", 0x0A00000000000000L, t.eight(0, 9, 1));
        CHECKS.due("eight -3 1", 0x000000F102030405L, t.eight(0, -3, 1));
        CHECKS.due("eight -7 1", 0xF1L, t.eight(0, -7, 1));
        for (int[] no : new int[][] {{-8, 1}, {10, 1}, {0, -1}, {0, 2}, {Integer.MAX_VALUE, 1},
            {Integer.MAX_VALUE - 6, 1}, {Integer.MIN_VALUE, 1}, {0, Integer.MIN_VALUE}, {0, Integer.MAX_VALUE}}) {
            CHECKS.due("eight " + no[0] + " " + no[1], 0L, t.eight(0, no[0], no[1]));
        }
        CHECKS.due("cut", true, t.cut(0, 4, 2));
        CHECKS.due("eight of four", 0xF102030400000000L, t.eight(0, 0, 1));
        for (int plane : NO_PLANES) {
            CHECKS.dueThrow("eight of " + plane, Checks.INDEX, () -> t.eight(plane, 0, 0));
            CHECKS.dueThrow("eight nowhere of " + plane, Checks.INDEX, () -> t.eight(plane, -9, -9));
        }
    }

    // Promise 13
    private static void apart() {
        CountedMixer t = filled(0, new int[][] {{1, 200}, {3, 4}});
        fill(t, 1, new int[][] {{5, 190}, {3, 16}});
        CHECKS.due("apart 0 1", 12, t.apart(0, 1));
        CHECKS.due("apart 1 0", 12, t.apart(1, 0));
        CHECKS.due("apart 0 0", 0, t.apart(0, 0));
        CHECKS.due("apart 2 3", 0, t.apart(2, 3));
        CHECKS.due("apart of two sizes", ToneMixer.NONE, t.apart(0, 2));
        t.put(1, 0, 0, 0);
        t.put(0, 0, 0, 255);
        CHECKS.due("apart by 255", 255, t.apart(0, 1));
        t.size(2, 2, 1);
        t.size(3, 1, 2);
        CHECKS.due("apart 2 by 1 and 1 by 2", ToneMixer.NONE, t.apart(2, 3));
        CHECKS.due("apart 2 by 2 and 2 by 1", ToneMixer.NONE, t.apart(0, 2));
        CHECKS.due("apart 1 by 2 and 2 by 2", ToneMixer.NONE, t.apart(3, 0));
        // What was cut off counts no more.
        CHECKS.due("cuts", true, t.cut(0, 1, 1) & t.cut(1, 1, 1) & t.extend(0, 1, 2) & t.extend(1, 1, 2));
        CHECKS.due("apart after cuts", 255, t.apart(0, 1));
        t.put(0, 0, 0, 1);
        t.put(0, 0, 1, 0);
        CHECKS.due("apart by 1", 1, t.apart(0, 1));
        for (int plane : NO_PLANES) {
            CHECKS.dueThrow("apart " + plane + " 0", Checks.INDEX, () -> t.apart(plane, 0));
            CHECKS.dueThrow("apart 0 " + plane, Checks.INDEX, () -> t.apart(0, plane));
        }
    }

    // Promise 14
    private static void look() {
        CountedMixer t = filled(3, new int[][] {{17, 200, 9}, {30, 40, 50}});
        long[] due = {3, 2, 346, 9, 200};
        for (int which = 0; which < due.length; which++) {
            CHECKS.due("look " + which, due[which], t.look(3, which));
        }
        for (int which : new int[] {-1, 5, 6, Integer.MIN_VALUE, Integer.MAX_VALUE}) {
            CHECKS.due("look " + which, ToneMixer.NONE, t.look(3, which));
        }
        CHECKS.due("cut", true, t.cut(3, 1, 2));
        long[] dueOfCut = {1, 2, 47, 17, 30};
        for (int which = 0; which < dueOfCut.length; which++) {
            CHECKS.due("look at the cut " + which, dueOfCut[which], t.look(3, which));
        }
        t.put(3, 0, 0, 255);
        CHECKS.due("cut and extend", true, t.cut(3, 1, 1) & t.extend(3, 32, 32));
        CHECKS.due("the greatest sum", 255 * 1024, t.look(3, 2));
        CHECKS.due("the least of 255", 255, t.look(3, 3));
        for (int plane : NO_PLANES) {
            CHECKS.dueThrow("look at " + plane, Checks.INDEX, () -> t.look(plane, 0));
            CHECKS.dueThrow("look badly at " + plane, Checks.INDEX, () -> t.look(plane, 5));
        }
    }

    private static int[][] nowhere(int w, int h) {
        return new int[][] {{-1, 0}, {0, -1}, {w, 0}, {0, h}, {w, h}, {31, h - 1}, {w - 1, 31}, {32, 0}, {0, 32},
            {Integer.MIN_VALUE, 0}, {0, Integer.MIN_VALUE}, {Integer.MAX_VALUE, 0}, {0, Integer.MAX_VALUE}};
    }

    private static void grows(String what, int[][] old, int how, int[][] due) {
        CountedMixer t = filled(2, old);
        CHECKS.due(what, true, t.grow(2, how));
        is(what, t, 2, due);
        is(what + ", another", t, 1, new int[][] {{0}});
    }

    private static void shrinks(String what, int[][] old, int how, int[][] due) {
        CountedMixer t = filled(1, old);
        CHECKS.due(what, true, t.shrink(1, how));
        is(what, t, 1, due);
        is(what + ", another", t, 2, new int[][] {{0}});
    }

    // The same place stands among others, so that a mix of the wrong places is seen.
    private static void mixes(int which, int[] old, int[] due) {
        CountedMixer t = new CountedMixer();
        for (int p = 0; p < 4; p++) {
            t.size(p, 3, 2);
            t.put(p, 2, 0, old[p]);
            t.put(p, 0, 1, old[p]);
        }
        CHECKS.due("mix " + which, true, t.mix(which));
        for (int p = 0; p < 4; p++) {
            CHECKS.due("mix " + which + ", w of " + p, 3, t.look(p, 0));
            CHECKS.due("mix " + which + ", h of " + p, 2, t.look(p, 1));
            CHECKS.due("mix " + which + " of " + p, due[p], t.at(p, 2, 0));
            CHECKS.due("mix " + which + " of " + p + " below", due[p], t.at(p, 0, 1));
        }
    }

    private static CountedMixer filled(int plane, int[][] samples) {
        CountedMixer t = new CountedMixer();
        fill(t, plane, samples);
        return t;
    }

    private static void fill(CountedMixer t, int plane, int[][] samples) {
        t.size(plane, samples[0].length, samples.length);
        for (int y = 0; y < samples.length; y++) {
            for (int x = 0; x < samples[y].length; x++) {
                t.put(plane, x, y, samples[y][x]);
            }
        }
    }

    private static void is(String what, CountedMixer t, int plane, int[][] due) {
        CHECKS.due(what + ": w", due[0].length, t.look(plane, 0));
        CHECKS.due(what + ": h", due.length, t.look(plane, 1));
        for (int y = 0; y < due.length; y++) {
            for (int x = 0; x < due[y].length; x += 8) {
                CHECKS.due(what + ": eight " + x + " " + y, Grid.bytes(due[y], x), t.eight(plane, x, y));
            }
        }
    }
}
