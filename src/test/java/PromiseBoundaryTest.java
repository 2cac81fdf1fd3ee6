/**
 * Promises 1 to 14: beside each sentence that names a boundary, a case just inside it, one at it and
 * one just outside it. After each refused call all four planes are looked at.
 */
public final class PromiseBoundaryTest {
    private static final int LEAST = Integer.MIN_VALUE;
    private static final int MOST = Integer.MAX_VALUE;
    private static final Sentences S = new Sentences();

    public static void main(String[] args) {
        S.all(
                PromiseBoundaryTest::newObject,
                PromiseBoundaryTest::sizeMakesZeros,
                PromiseBoundaryTest::sizeRefused,
                PromiseBoundaryTest::putSample,
                PromiseBoundaryTest::putRefused,
                PromiseBoundaryTest::rowOfEight,
                PromiseBoundaryTest::rowRefused,
                PromiseBoundaryTest::growHow,
                PromiseBoundaryTest::growTooLarge,
                PromiseBoundaryTest::growPlanes,
                PromiseBoundaryTest::shrinkHow,
                PromiseBoundaryTest::shrinkPlanes,
                PromiseBoundaryTest::mixWhich,
                PromiseBoundaryTest::mixSizes,
                PromiseBoundaryTest::copyAll,
                PromiseBoundaryTest::copyPlanes,
                PromiseBoundaryTest::extendAgain,
                PromiseBoundaryTest::extendRefused,
                PromiseBoundaryTest::extendPlanes,
                PromiseBoundaryTest::cutFirst,
                PromiseBoundaryTest::cutRefused,
                PromiseBoundaryTest::cutPlanes,
                PromiseBoundaryTest::atPlaces,
                PromiseBoundaryTest::eightZeros,
                PromiseBoundaryTest::eightPlanes,
                PromiseBoundaryTest::apartDifference,
                PromiseBoundaryTest::apartNone,
                PromiseBoundaryTest::apartPlanes,
                PromiseBoundaryTest::lookAnswers,
                PromiseBoundaryTest::lookOther);
        S.end();
    }

    // Promise 1: A new object

    private static void newObject() {
        S.sentence("Promise 1", "All planes are 1 by 1, samples 0.");
        CountedMixer older = Sentences.prepared(Sentences::four);
        String old = Sentences.picture(older);
        CountedMixer t = new CountedMixer();
        for (int p = 0; p < 4; p++) {
            int plane = p;
            S.plane("new", new int[][] {{0}}, t, plane);
            S.due("new, sample of plane " + plane, 0, t.at(plane, 0, 0));
            S.places("at in plane " + plane, 1, 1, m -> { }, (m, x, y) -> m.at(plane, x, y));
            t.size(plane, 32, 32);
        }
        S.due("an older object", old, Sentences.picture(older));
    }

    // Promise 2: size

    private static void sizeMakesZeros() {
        S.sentence("Promise 2", "A plane has another size, all samples 0.");
        for (int[] side : new int[][] {{1, 1}, {2, 1}, {1, 2}, {31, 31}, {32, 31}, {31, 32}, {32, 32}}) {
            CountedMixer t = light(1);
            t.put(0, 0, 0, 7);
            t.put(2, 0, 0, 8);
            t.size(1, side[0], side[1]);
            S.plane("of 32 by 32 full of 255", new int[side[1]][side[0]], t, 1);
            S.plane("another", new int[][] {{7}}, t, 0);
            S.plane("another", new int[][] {{8}}, t, 2);
            t.size(1, 32, 32);
            S.due("32 by 32 again, the greatest", 0, t.look(1, 4));
        }
        CountedMixer t = Sentences.prepared(Sentences::four);
        t.size(0, 3, 2);
        S.plane("the size that it had", new int[2][3], t, 0);
    }

    // A plane of 32 by 32 samples of 255.
    private static CountedMixer light(int plane) {
        CountedMixer t = new CountedMixer();
        t.put(plane, 0, 0, 255);
        S.due("extend to 32 by 32", true, t.extend(plane, 32, 32));
        return t;
    }

    private static void sizeRefused() {
        S.sentence("Promise 2", "IndexOutOfBoundsException; IllegalArgumentException if w or h is not 1 .. 32.");
        for (int side : new int[] {1, 2, 31, 32}) {
            CountedMixer t = new CountedMixer();
            t.size(0, side, 5);
            t.size(1, 5, side);
            t.size(2, side, side);
            S.plane("w " + side, new int[5][side], t, 0);
            S.plane("h " + side, new int[side][5], t, 1);
            S.plane("w and h " + side, new int[side][side], t, 2);
        }
        for (int side : new int[] {0, 33, -1, 34, -32, 64, 256 + 3, LEAST, LEAST + 2, MOST}) {
            for (int right : new int[] {1, 2, 32}) {
                S.thrown("w " + side + ", h " + right, Checks.ARGUMENT, t -> t.size(0, side, right));
                S.thrown("w " + right + ", h " + side, Checks.ARGUMENT, t -> t.size(0, right, side));
            }
            S.thrown("w and h " + side, Checks.ARGUMENT, t -> t.size(0, side, side));
        }
        S.planes("size", (t, plane) -> t.size(plane, 2, 2), (t, plane) -> t.size(plane, 33, 0));
    }

    // Promise 3: put

    private static void putSample() {
        S.sentence("Promise 3", "A sample.");
        CountedMixer t = new CountedMixer();
        t.size(3, 32, 32);
        int[][] due = new int[32][32];
        int[][] corners = {{0, 0}, {31, 0}, {0, 31}, {31, 31}, {1, 0}, {30, 31}};
        for (int i = 0; i < corners.length; i++) {
            t.put(3, corners[i][0], corners[i][1], 10 + i);
            due[corners[i][1]][corners[i][0]] = 10 + i;
        }
        S.plane("corners", due, t, 3);
    }

    private static void putRefused() {
        S.sentence("Promise 3", "IndexOutOfBoundsException; IllegalArgumentException if value is none.");
        for (int value : new int[] {0, 1, 127, 128, 254, 255}) {
            CountedMixer t = new CountedMixer();
            t.put(0, 0, 0, 99);
            t.put(0, 0, 0, value);
            S.due("value " + value, value, t.at(0, 0, 0));
        }
        for (int value : new int[] {-1, 256, -2, 257, -255, -256, 512, LEAST, LEAST + 1, MOST}) {
            S.thrown("value " + value, Checks.ARGUMENT, t -> t.put(0, 2, 1, value));
            S.thrown("value " + value + " nowhere", Checks.INDEX, t -> t.put(0, 3, 1, value));
        }
        S.places("put", 3, 2, Sentences::four, (t, x, y) -> t.put(0, x, y, 77));
        S.places("put in one", 1, 1, Sentences::four, (t, x, y) -> t.put(3, x, y, 77));
        S.places("put in the largest", 32, 32, t -> t.size(2, 32, 32), (t, x, y) -> t.put(2, x, y, 77));
        S.planes("put", (t, plane) -> t.put(plane, 0, 0, 77), (t, plane) -> t.put(plane, -1, 32, 256));
    }

    // Promise 4: row

    private static void rowOfEight() {
        S.sentence("Promise 4",
                "Eight samples (x, y) .. (x + 7, y), as far as there are such, from the highest byte of a long on.");
        for (int w : new int[] {1, 7, 8, 9, 10, 31, 32}) {
            for (int x = 0; x < w; x++) {
                rowAt(x, w, 0);
                rowAt(x, w, 1);
                rowAt(x, w, 2);
            }
        }
        rowOfBytes(0x0000000000000000L, 0, 0, 0, 0, 0, 0, 0, 0);
        rowOfBytes(0x00FF01FE7F8002FDL, 0, 255, 1, 254, 127, 128, 2, 253);
        rowOfBytes(0x8000000000000000L, 128, 0, 0, 0, 0, 0, 0, 0);
        rowOfBytes(0x7FFFFFFFFFFFFFFFL, 127, 255, 255, 255, 255, 255, 255, 255);
        rowOfBytes(-1L, 255, 255, 255, 255, 255, 255, 255, 255);
        rowOfBytes(255L, 0, 0, 0, 0, 0, 0, 0, 255);
        CountedMixer t = light(0);
        t.row(0, 31, 31, 0x0908070605040302L);
        S.due("the last of 32 by 32", 9, t.at(0, 31, 31));
        S.due("no other of 32 by 32", 1024 * 255 - 246, t.look(0, 2));
    }

    // Above and below, and to the left and the right, all samples stay.
    private static void rowAt(int x, int w, int y) {
        int[][] due = Grid.mottled(w, 3);
        CountedMixer t = new CountedMixer();
        Grid.fill(t, 0, due);
        t.row(0, x, y, 0xF1F2F3F4F5F6F7F8L);
        for (int i = 0; i < 8 && x + i < w; i++) {
            due[y][x + i] = 0xF1 + i;
        }
        S.plane("row at " + x + " " + y + " of " + w, due, t, 0);
    }

    private static void rowOfBytes(long eight, int... due) {
        CountedMixer t = new CountedMixer();
        t.size(1, 8, 1);
        t.row(1, 0, 0, eight);
        for (int x = 0; x < 8; x++) {
            S.due("byte " + x + " of " + eight, due[x], t.at(1, x, 0));
        }
    }

    private static void rowRefused() {
        S.sentence("Promise 4", "IndexOutOfBoundsException if (x, y) is none.");
        S.places("row", 3, 2, Sentences::four, (t, x, y) -> t.row(0, x, y, -1L));
        S.places("row in one", 1, 1, Sentences::four, (t, x, y) -> t.row(3, x, y, 0L));
        S.places("row in the largest", 32, 32, t -> t.size(2, 32, 32), (t, x, y) -> t.row(2, x, y, -1L));
        S.planes("row", (t, plane) -> t.row(plane, 0, 0, -1L), (t, plane) -> t.row(plane, -1, 32, -1L));
    }

    // Promise 5: grow

    private static void growHow() {
        S.sentence("Promise 5", "GROWS across (how 0, 1), down (2, 3), both, across first (4, 5); "
                + "by boxes if how is even, else by triangles: true; "
                + "false if how is none, or the plane would be too large.");
        int[][] old = {{0, 1}, {2, 19}};
        int[][][] due = {
            {{0, 0, 1, 1}, {2, 2, 19, 19}},
            {{0, 0, 1, 1}, {2, 6, 15, 19}},
            {{0, 1}, {0, 1}, {2, 19}, {2, 19}},
            {{0, 1}, {1, 6}, {1, 14}, {2, 19}},
            {{0, 0, 1, 1}, {0, 0, 1, 1}, {2, 2, 19, 19}, {2, 2, 19, 19}},
            {{0, 0, 1, 1}, {1, 2, 5, 6}, {1, 4, 11, 14}, {2, 6, 15, 19}},
        };
        for (int how = 0; how < due.length; how++) {
            growsTo("how " + how, old, how, due[how]);
        }
        // Across first: 0 1 1 2 below zeros; down first the inner rows would be 0 0 1 1.
        growsTo("across first", new int[][] {{0, 0}, {0, 2}}, 5,
                new int[][] {{0, 0, 0, 0}, {0, 0, 0, 1}, {0, 1, 1, 1}, {0, 1, 1, 2}});
        for (int how : new int[] {-1, 6, -2, 7, -6, 8, 256, LEAST, LEAST + 1, MOST}) {
            S.isFalse("how " + how, Sentences::four, t -> t.grow(0, how));
        }
    }

    private static void growsTo(String what, int[][] old, int how, int[][] due) {
        CountedMixer t = new CountedMixer();
        for (int p = 0; p < 4; p++) {
            Grid.fill(t, p, old);
        }
        S.due(what, true, t.grow(2, how));
        for (int p = 0; p < 4; p++) {
            S.plane(what, p == 2 ? due : old, t, p);
        }
    }

    private static void growTooLarge() {
        S.sentence("Promise 5", "false if how is none, or the plane would be too large.");
        for (int how = 0; how < 6; how++) {
            for (int w : new int[] {1, 15, 16, 17, 32}) {
                for (int h : new int[] {1, 15, 16, 17, 32}) {
                    growOf(w, h, how);
                }
            }
        }
    }

    private static void growOf(int w, int h, int how) {
        int factorAcross = how < 2 || how > 3 ? 2 : 1;
        int factorDown = how > 1 ? 2 : 1;
        String what = "how " + how + " of " + w + " by " + h;
        Sentences.Act before = t -> Grid.fill(t, 0, Grid.mottled(w, h));
        if (factorAcross * w > 32 || factorDown * h > 32) {
            S.isFalse(what, before, t -> t.grow(0, how));
            return;
        }
        CountedMixer t = Sentences.prepared(before);
        S.due(what, true, t.grow(0, how));
        S.due(what + ": W", factorAcross * w, t.look(0, 0));
        S.due(what + ": H", factorDown * h, t.look(0, 1));
    }

    private static void growPlanes() {
        S.sentence("Promise 5", "IndexOutOfBoundsException.");
        for (int how = 0; how < 6; how++) {
            int right = how;
            S.planes("grow " + how, (t, plane) -> t.grow(plane, right), (t, plane) -> t.grow(plane, 6));
        }
    }

    // Promise 6: shrink

    private static void shrinkHow() {
        S.sentence("Promise 6", "SHRINKS ACROSS (how 0), DOWN (1), BOTH (2): true; false if how is none.");
        int[][] old = {{10, 20, 201}, {30, 41, 90}};
        shrinksTo("how 0", old, 0, new int[][] {{15, 201}, {35, 90}});
        shrinksTo("how 1", old, 1, new int[][] {{20, 30, 145}});
        // 10 + 20 + 30 + 41 + 1 and 2 * (201 + 90) + 2, by 4.
        shrinksTo("how 2", old, 2, new int[][] {{25, 146}});
        for (int how = 0; how < 3; how++) {
            shrinksTo("how " + how + " of one", new int[][] {{255}}, how, new int[][] {{255}});
        }
        for (int how : new int[] {-1, 3, -2, 4, 5, 256, 258, LEAST, LEAST + 1, MOST}) {
            S.isFalse("how " + how, Sentences::four, t -> t.shrink(0, how));
        }
    }

    private static void shrinksTo(String what, int[][] old, int how, int[][] due) {
        CountedMixer t = new CountedMixer();
        for (int p = 0; p < 4; p++) {
            Grid.fill(t, p, old);
        }
        S.due(what, true, t.shrink(1, how));
        for (int p = 0; p < 4; p++) {
            S.plane(what, p == 1 ? due : old, t, p);
        }
    }

    private static void shrinkPlanes() {
        S.sentence("Promise 6", "IndexOutOfBoundsException.");
        for (int how = 0; how < 3; how++) {
            int right = how;
            S.planes("shrink " + how, (t, plane) -> t.shrink(plane, right), (t, plane) -> t.shrink(plane, 3));
        }
    }

    // Promise 7: mix

    private static final String MIX =
            "A MIX, 0 .. 6: true; false if there is none such, or the planes are not of one size.";

    private static void mixWhich() {
        S.sentence("Promise 7", MIX);
        for (int which = 0; which < 7; which++) {
            int mix = which;
            S.isTrue("mix " + mix, Sentences::fourOfOneSize, t -> t.mix(mix));
            CountedMixer t = Sentences.prepared(Sentences::fourOfOneSize);
            String old = Sentences.picture(t);
            t.mix(mix);
            S.due("mix " + mix + " changes something", false, old.equals(Sentences.picture(t)));
        }
        for (int which : new int[] {-1, 7, -2, 8, 9, 256, 256 + 6, LEAST, LEAST + 2, MOST}) {
            S.isFalse("mix " + which, Sentences::fourOfOneSize, t -> t.mix(which));
        }
    }

    // One of the planes 0 .. 2 is wider, narrower, higher or lower by one; or w and h change places.
    private static void mixSizes() {
        S.sentence("Promise 7", MIX);
        for (int which = 0; which < 7; which++) {
            int mix = which;
            for (int p = 0; p < 3; p++) {
                int odd = p;
                for (int[] side : new int[][] {{2, 2}, {4, 2}, {3, 1}, {3, 3}, {2, 3}, {32, 32}, {1, 1}}) {
                    S.isFalse("mix " + mix + ", plane " + odd + " of " + side[0] + " by " + side[1], t -> {
                        Sentences.fourOfOneSize(t);
                        t.size(odd, side[0], side[1]);
                        t.put(odd, 0, 0, 77);
                    }, t -> t.mix(mix));
                }
            }
            S.isTrue("mix " + mix + " of 1 by 1", t -> { }, t -> t.mix(mix));
            S.isTrue("mix " + mix + " of 32 by 32", PromiseBoundaryTest::largest, t -> t.mix(mix));
        }
    }

    private static void largest(CountedMixer t) {
        for (int p = 0; p < 4; p++) {
            t.size(p, 32, 32);
        }
    }

    // Promise 8: copy

    private static void copyAll() {
        S.sentence("Promise 8", "Plane b becomes like plane a.");
        int[][][] grids = {{{9}}, Grid.mottled(32, 32), Grid.mottled(1, 32), Grid.mottled(32, 1), Grid.mottled(31, 2)};
        for (int[][] from : grids) {
            for (int a = 0; a < 4; a++) {
                int b = (a + 3) % 4;
                CountedMixer t = light(b);
                Grid.fill(t, a, from);
                t.copy(a, b);
                S.plane("copy", from, t, b);
                S.due("apart", 0, t.apart(a, b));
                // Neither follows the other.
                t.put(b, 0, 0, 200);
                S.due("the copied one", from[0][0], t.at(a, 0, 0));
                t.put(a, 0, 0, 100);
                S.due("the copy", 200, t.at(b, 0, 0));
            }
        }
        CountedMixer t = Sentences.prepared(Sentences::four);
        String old = Sentences.picture(t);
        for (int p = 0; p < 4; p++) {
            t.copy(p, p);
        }
        S.due("each to itself", old, Sentences.picture(t));
        t.copy(0, 3);
        S.plane("the others", new int[][] {{11, 12}, {13, 14}, {15, 16}}, t, 1);
        S.plane("the others", new int[][] {{21, 22, 23}, {24, 25, 26}}, t, 2);
    }

    private static void copyPlanes() {
        S.sentence("Promise 8", "IndexOutOfBoundsException.");
        for (int p = 0; p < 4; p++) {
            int there = p;
            S.planes("copy to " + there, (t, plane) -> t.copy(plane, there), (t, plane) -> t.copy(plane, plane));
            S.planes("copy of " + there, (t, plane) -> t.copy(there, plane), (t, plane) -> t.copy(-9, plane));
        }
    }

    // Promise 9: extend

    private static final String EXTEND = "A plane is widened to w by h (not less than it has): the last samples "
            + "of rows, and the last row, are taken again: true; false if w or h is less, or above 32.";

    private static void extendAgain() {
        S.sentence("Promise 9", EXTEND);
        for (int[] side : new int[][] {{3, 2}, {4, 2}, {3, 3}, {4, 3}, {31, 2}, {3, 31}, {32, 2}, {3, 32}, {32, 32}}) {
            extendsTo(Grid.mottled(3, 2), side[0], side[1]);
        }
        extendsTo(new int[][] {{9}}, 1, 1);
        extendsTo(new int[][] {{9}}, 32, 32);
        extendsTo(Grid.mottled(31, 31), 32, 32);
        extendsTo(Grid.mottled(32, 32), 32, 32);
        // What was cut off does not come back.
        CountedMixer t = light(0);
        S.due("cut", true, t.cut(0, 2, 2));
        t.row(0, 0, 0, 0);
        t.row(0, 0, 1, 0);
        S.due("extend", true, t.extend(0, 32, 32));
        S.due("extend after cut, the greatest", 0, t.look(0, 4));
    }

    private static void extendsTo(int[][] old, int w, int h) {
        CountedMixer t = new CountedMixer();
        t.put(0, 0, 0, 5);
        Grid.fill(t, 1, old);
        int[][] due = new int[h][w];
        for (int y = 0; y < h; y++) {
            for (int x = 0; x < w; x++) {
                due[y][x] = old[Math.min(y, old.length - 1)][Math.min(x, old[0].length - 1)];
            }
        }
        String what = old[0].length + " by " + old.length + " to " + w + " by " + h;
        S.due(what, true, t.extend(1, w, h));
        S.plane(what, due, t, 1);
        S.plane(what, new int[][] {{5}}, t, 0);
    }

    private static void extendRefused() {
        S.sentence("Promise 9", EXTEND);
        int[] less = {2, 1, 0, -1, LEAST};
        int[] above = {33, 34, 64, 256 + 5, MOST};
        for (int[] wrong : new int[][] {less, above}) {
            for (int side : wrong) {
                for (int right : new int[] {3, 4, 32}) {
                    S.isFalse("3 by 3 to " + side + " by " + right, PromiseBoundaryTest::three,
                            t -> t.extend(0, side, right));
                    S.isFalse("3 by 3 to " + right + " by " + side, PromiseBoundaryTest::three,
                            t -> t.extend(0, right, side));
                }
                S.isFalse("3 by 3 to " + side + " by 33", PromiseBoundaryTest::three, t -> t.extend(0, side, 33));
                S.isFalse("3 by 3 to 2 by " + side, PromiseBoundaryTest::three, t -> t.extend(0, 2, side));
            }
        }
        for (int[] side : new int[][] {{31, 32}, {32, 31}, {33, 32}, {32, 33}, {33, 33}}) {
            S.isFalse("32 by 32 to " + side[0] + " by " + side[1], t -> Grid.fill(t, 0, Grid.mottled(32, 32)),
                    t -> t.extend(0, side[0], side[1]));
        }
    }

    private static void three(CountedMixer t) {
        Grid.fill(t, 0, Grid.mottled(3, 3));
    }

    private static void extendPlanes() {
        S.sentence("Promise 9", "IndexOutOfBoundsException.");
        S.planes("extend", (t, plane) -> t.extend(plane, 5, 5), (t, plane) -> t.extend(plane, 0, 33));
    }

    // Promise 10: cut

    private static final String CUT =
            "The first w by h samples alone: true; false if w or h is below 1, or more than it has.";

    private static void cutFirst() {
        S.sentence("Promise 10", CUT);
        for (int[] side : new int[][] {{1, 1}, {2, 1}, {1, 2}, {31, 31}, {32, 31}, {31, 32}, {32, 32}, {1, 32}, {32, 1}}) {
            cutsTo(Grid.mottled(32, 32), side[0], side[1]);
        }
        cutsTo(Grid.mottled(3, 2), 3, 2);
        cutsTo(Grid.mottled(3, 2), 2, 2);
        cutsTo(Grid.mottled(3, 2), 3, 1);
        cutsTo(Grid.mottled(3, 2), 1, 1);
        cutsTo(new int[][] {{7}}, 1, 1);
    }

    private static void cutsTo(int[][] old, int w, int h) {
        CountedMixer t = new CountedMixer();
        t.put(0, 0, 0, 5);
        Grid.fill(t, 3, old);
        int[][] due = new int[h][w];
        for (int y = 0; y < h; y++) {
            System.arraycopy(old[y], 0, due[y], 0, w);
        }
        String what = old[0].length + " by " + old.length + " to " + w + " by " + h;
        S.due(what, true, t.cut(3, w, h));
        S.plane(what, due, t, 3);
        S.plane(what, new int[][] {{5}}, t, 0);
    }

    private static void cutRefused() {
        S.sentence("Promise 10", CUT);
        for (int side : new int[] {0, -1, LEAST, LEAST + 1, 4, 5, 32, 33, 256 + 2, MOST}) {
            for (int right : new int[] {1, 2, 3}) {
                S.isFalse("3 by 3 to " + side + " by " + right, PromiseBoundaryTest::three,
                        t -> t.cut(0, side, right));
                S.isFalse("3 by 3 to " + right + " by " + side, PromiseBoundaryTest::three,
                        t -> t.cut(0, right, side));
            }
            S.isFalse("3 by 3 to " + side + " by 0", PromiseBoundaryTest::three, t -> t.cut(0, side, 0));
            S.isFalse("3 by 3 to 4 by " + side, PromiseBoundaryTest::three, t -> t.cut(0, 4, side));
        }
        // One of the sides would fit the other way round.
        S.isFalse("3 by 2 to 2 by 3", Sentences::four, t -> t.cut(0, 2, 3));
        S.isFalse("2 by 3 to 3 by 2", Sentences::four, t -> t.cut(1, 3, 2));
        for (int[] side : new int[][] {{33, 32}, {32, 33}, {0, 32}, {32, 0}}) {
            S.isFalse("32 by 32 to " + side[0] + " by " + side[1], t -> Grid.fill(t, 0, Grid.mottled(32, 32)),
                    t -> t.cut(0, side[0], side[1]));
        }
    }

    private static void cutPlanes() {
        S.sentence("Promise 10", "IndexOutOfBoundsException.");
        S.planes("cut", (t, plane) -> t.cut(plane, 1, 1), (t, plane) -> t.cut(plane, 0, 33));
    }

    // Promise 11: at

    private static void atPlaces() {
        S.sentence("Promise 11", "A sample. IndexOutOfBoundsException.");
        CountedMixer t = Sentences.prepared(Sentences::four);
        S.due("first", 1, t.at(0, 0, 0));
        S.due("last above", 3, t.at(0, 2, 0));
        S.due("first below", 4, t.at(0, 0, 1));
        S.due("last", 6, t.at(0, 2, 1));
        S.due("the greatest", 255, t.at(3, 0, 0));
        S.places("at", 3, 2, Sentences::four, (m, x, y) -> m.at(0, x, y));
        S.places("at of one", 1, 1, Sentences::four, (m, x, y) -> m.at(3, x, y));
        S.places("at of the largest", 32, 32, m -> m.size(2, 32, 32), (m, x, y) -> m.at(2, x, y));
        // What was cut off is there no more.
        S.places("at of a cut one", 2, 1, m -> {
            Sentences.four(m);
            m.cut(0, 2, 1);
        }, (m, x, y) -> m.at(0, x, y));
        S.planes("at", (m, plane) -> m.at(plane, 0, 0), (m, plane) -> m.at(plane, -1, 32));
    }

    // Promise 12: eight

    private static void eightZeros() {
        S.sentence("Promise 12",
                "Samples (x, y) .. (x + 7, y) as the bytes of a long, the first one highest, 0 where there is none.");
        for (int w : new int[] {1, 2, 7, 8, 9, 31, 32}) {
            int[][] rows = Grid.mottled(w, 3);
            CountedMixer t = Sentences.prepared(m -> Grid.fill(m, 2, rows));
            for (int y = -1; y < 4; y++) {
                for (int x = -9; x < w + 2; x++) {
                    S.due("eight at " + x + " " + y + " of " + w, eightOf(rows, x, y), t.eight(2, x, y));
                }
            }
        }
        CountedMixer t = light(0);
        S.due("255 eight times", -1L, t.eight(0, 24, 31));
        S.due("255 seven times at the end", 0xFFFFFFFFFFFFFF00L, t.eight(0, 25, 31));
        S.due("255 at the end alone", 0xFF00000000000000L, t.eight(0, 31, 0));
        S.due("255 at the start alone", 0xFFL, t.eight(0, -7, 1));
        int[][] nowhere = {
            {32, 0}, {-8, 1}, {0, 32}, {0, -1}, {MOST, 0}, {MOST - 6, 0}, {MOST - 7, 0}, {LEAST, 0}, {LEAST + 7, 0},
            {0, MOST}, {0, LEAST}, {MOST, MOST}, {LEAST, LEAST}, {-32, 1}, {32, -1}, {0, 1 << 27}, {1 << 30, 0}};
        for (int[] no : nowhere) {
            S.due("eight at " + no[0] + " " + no[1], 0L, t.eight(0, no[0], no[1]));
        }
        S.due("cut", true, t.cut(0, 3, 2));
        S.due("three of a cut one", 0xFFFFFF0000000000L, t.eight(0, 0, 1));
        S.due("below a cut one", 0L, t.eight(0, 0, 2));
    }

    private static long eightOf(int[][] rows, int x, int y) {
        long bytes = 0;
        for (int i = x; i < x + 8; i++) {
            boolean there = y >= 0 && y < rows.length && i >= 0 && i < rows[0].length;
            bytes = bytes * 256 + (there ? rows[y][i] : 0);
        }
        return bytes;
    }

    private static void eightPlanes() {
        S.sentence("Promise 12", "IndexOutOfBoundsException if there is no such plane.");
        S.planes("eight", (t, plane) -> t.eight(plane, 0, 0), (t, plane) -> t.eight(plane, -9, 40));
        for (int[] no : new int[][] {{3, 0}, {-1, 0}, {0, 2}, {0, -1}, {LEAST, MOST}, {MOST, LEAST}}) {
            S.taken("eight where no sample is", t -> t.eight(0, no[0], no[1]));
        }
    }

    // Promise 13: apart

    private static final String APART =
            "The greatest difference of samples of two planes; NONE if they are not of one size.";

    private static void apartDifference() {
        S.sentence("Promise 13", APART);
        // One sample of each, and their difference.
        for (int[] two : new int[][] {{0, 0}, {0, 1}, {255, 254}, {0, 254}, {1, 255}, {0, 255}, {255, 255}, {127, 128}}) {
            CountedMixer t = new CountedMixer();
            t.put(1, 0, 0, two[0]);
            t.put(2, 0, 0, two[1]);
            S.due(two[0] + " and " + two[1], Math.abs(two[0] - two[1]), t.apart(1, 2));
            S.due(two[1] + " and " + two[0], Math.abs(two[0] - two[1]), t.apart(2, 1));
            S.due("of itself", 0, t.apart(2, 2));
        }
        // The one difference stands in a corner, and a less one beside it.
        for (int[] corner : new int[][] {{0, 0}, {31, 0}, {0, 31}, {31, 31}}) {
            CountedMixer t = light(0);
            t.copy(0, 3);
            t.put(3, 15, 15, 254);
            S.due("a difference of 1", 1, t.apart(0, 3));
            t.put(3, corner[0], corner[1], 200);
            S.due("a difference in a corner", 55, t.apart(0, 3));
            S.due("a difference in a corner", 55, t.apart(3, 0));
        }
        // What was cut off counts no more.
        CountedMixer t = light(0);
        t.size(1, 32, 32);
        S.due("cut", true, t.cut(0, 2, 3) & t.cut(1, 2, 3));
        for (int y = 0; y < 3; y++) {
            t.row(0, 0, y, 0);
        }
        S.due("cut ones", 0, t.apart(0, 1));
    }

    private static void apartNone() {
        S.sentence("Promise 13", APART);
        int[][] others = {{2, 2}, {4, 2}, {3, 1}, {3, 3}, {2, 3}, {1, 1}, {6, 1}, {1, 6}, {32, 32}};
        for (int[] side : others) {
            CountedMixer t = Sentences.prepared(Sentences::four);
            t.size(3, side[0], side[1]);
            String old = Sentences.picture(t);
            S.due("3 by 2 and " + side[0] + " by " + side[1], -1, t.apart(0, 3));
            S.due(side[0] + " by " + side[1] + " and 3 by 2", -1, t.apart(3, 0));
            S.due("changes nothing", old, Sentences.picture(t));
        }
        CountedMixer t = Sentences.prepared(Sentences::four);
        S.due("3 by 2 and 3 by 2", 20, t.apart(0, 2));
        t.size(0, 32, 32);
        t.size(1, 32, 31);
        t.size(2, 31, 32);
        S.due("32 by 32 and 32 by 31", -1, t.apart(0, 1));
        S.due("32 by 32 and 31 by 32", -1, t.apart(0, 2));
        S.due("32 by 31 and 31 by 32", -1, t.apart(1, 2));
    }

    private static void apartPlanes() {
        S.sentence("Promise 13", "IndexOutOfBoundsException.");
        for (int p = 0; p < 4; p++) {
            int there = p;
            S.planes("apart with " + there, (t, plane) -> t.apart(plane, there), (t, plane) -> t.apart(plane, plane));
            S.planes("apart of " + there, (t, plane) -> t.apart(there, plane), (t, plane) -> t.apart(-9, plane));
        }
    }

    // Promise 14: look

    private static void lookAnswers() {
        S.sentence("Promise 14",
                "Of a plane: which 0: W, 1: H, 2: the sum of its samples, 3: the least one, 4: the greatest one.");
        looks("one", Sentences.prepared(t -> { }), 1, 1, 0, 0, 0);
        looks("full", light(0), 32, 32, 1024 * 255, 255, 255);
        looks("empty", Sentences.prepared(t -> t.size(0, 32, 32)), 32, 32, 0, 0, 0);
        looks("1 by 32", Sentences.prepared(t -> t.size(0, 1, 32)), 1, 32, 0, 0, 0);
        looks("32 by 1", Sentences.prepared(t -> t.size(0, 32, 1)), 32, 1, 0, 0, 0);
        for (int[] corner : new int[][] {{0, 0}, {31, 0}, {0, 31}, {31, 31}}) {
            CountedMixer t = light(0);
            t.put(0, corner[0], corner[1], 254);
            looks("all 255 but one", t, 32, 32, 1024 * 255 - 1, 254, 255);
            CountedMixer u = new CountedMixer();
            u.size(0, 32, 32);
            u.put(0, corner[0], corner[1], 1);
            looks("all 0 but one", u, 32, 32, 1, 0, 1);
        }
        // What was cut off counts no more, be it less or greater.
        looks("cut", Sentences.prepared(t -> {
            Grid.fill(t, 0, new int[][] {{17, 30, 255}, {20, 21, 1}, {0, 9, 8}});
            t.cut(0, 2, 2);
        }), 2, 2, 88, 17, 30);
    }

    private static void looks(String what, CountedMixer t, int... due) {
        for (int which = 0; which < due.length; which++) {
            S.due(what + ", look " + which, due[which], t.look(0, which));
        }
    }

    private static void lookOther() {
        S.sentence("Promise 14", "IndexOutOfBoundsException; NONE for any other which.");
        CountedMixer t = Sentences.prepared(Sentences::four);
        String old = Sentences.picture(t);
        looks("inside", t, 3, 2, 21, 1, 6);
        for (int which : new int[] {-1, 5, -2, 6, 7, 256, 256 + 4, LEAST, LEAST + 1, MOST}) {
            for (int plane = 0; plane < 4; plane++) {
                S.due("look " + which + " of plane " + plane, -1, t.look(plane, which));
            }
        }
        S.due("changes nothing", old, Sentences.picture(t));
        for (int w = 0; w < 5; w++) {
            int which = w;
            S.planes("look " + which, (m, plane) -> m.look(plane, which), (m, plane) -> m.look(plane, 5));
        }
    }
}
