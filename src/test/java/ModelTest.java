import java.util.Random;

/** Long runs of calls, right and wrong ones, answered by the class and by the model alike. */
public final class ModelTest {
    private static final int RUNS = 6000;
    // All of one plane takes 5 looks and 4 eights for each of 32 rows; a step makes 5 calls at most.
    private static final int CALLS_TO_COMPARE = 5 + 4 * 32;
    private static final int MOST_AT_ONCE = 5;
    private static final int[] EXTREMES = {
        Integer.MIN_VALUE, Integer.MIN_VALUE + 1, -256, -33, -8, -7, -1, 33, 64, 256, 1 << 30,
        Integer.MAX_VALUE - 6, Integer.MAX_VALUE};

    private final Checks checks;
    private final Random random;
    private final int run;
    private final CountedMixer mixer = new CountedMixer();
    private final ToneModel model = new ToneModel();

    private ModelTest(Checks checks, int run) {
        this.checks = checks;
        this.run = run;
        this.random = new Random(run);
    }

    public static void main(String[] args) {
        Checks checks = new Checks();
        everyDarkening(checks);
        everyKindOfColour(checks);
        for (int run = 0; run < RUNS; run++) {
            new ModelTest(checks, run).calls();
        }
        checks.end();
    }

    // Each sample, 0 .. 255 in a plane of 32 by 8, under each of plane 3.
    private static void everyDarkening(Checks checks) {
        for (int d = 0; d < 256; d++) {
            CountedMixer mixer = new CountedMixer();
            mixer.size(0, 32, 8);
            for (int v = 0; v < 256; v += 8) {
                mixer.row(0, v % 32, v / 32, 0x0001020304050607L + v * 0x0101010101010101L);
            }
            mixer.copy(0, 1);
            mixer.copy(0, 2);
            mixer.put(3, 0, 0, d);
            checks.due("extend plane 3", true, mixer.extend(3, 32, 8));
            checks.due("darken by " + d, true, mixer.mix(3));
            for (int v = 0; v < 256; v++) {
                long due = Math.floorDiv(v * (255 - d) + 127, 255);
                checks.due("darken " + v + " by " + d, due, mixer.at(v % 3, v % 32, v / 32));
            }
        }
    }

    private static void everyKindOfColour(Checks checks) {
        for (int which = 0; which < 7; which++) {
            for (int c = 0; c < 256; c += 15) {
                ModelTest test = new ModelTest(checks, -1);
                test.fillWithColours(c);
                checks.due("mix " + which, test.model.mix(which), test.mixer.mix(which));
                for (int p = 0; p < 4; p++) {
                    test.comparePlane("mix " + which + " of colours with " + c, p);
                }
            }
        }
    }

    // 18 by 18 places: plane 0 goes from 0 to 255 across, plane 1 downwards, plane 2 is c alone.
    private void fillWithColours(int c) {
        for (int p = 0; p < 4; p++) {
            mixer.size(p, 18, 18);
            model.size(p, 18, 18);
        }
        for (int y = 0; y < 18; y++) {
            for (int x = 0; x < 18; x += 8) {
                long steps = 0x000F1E2D3C4B5A69L + 15 * x * 0x0101010101010101L;
                putRow(0, x, y, x == 16 ? 0xF0FF000000000000L : steps);
                putRow(1, x, y, Math.min(255, 15 * y) * 0x0101010101010101L);
                putRow(2, x, y, c * 0x0101010101010101L);
            }
        }
    }

    private void putRow(int plane, int x, int y, long eight) {
        mixer.row(plane, x, y, eight);
        model.row(plane, x, y, eight);
    }

    private void calls() {
        int kept = CALLS_TO_COMPARE + random.nextInt(CountedMixer.MOST - CALLS_TO_COMPARE - MOST_AT_ONCE);
        for (int i = 0; mixer.left() >= kept + MOST_AT_ONCE; i++) {
            call(i);
        }
        comparePlane("run " + run + ", at the end", random.nextInt(4));
    }

    private void call(int i) {
        int plane = random.nextInt(40) == 0 ? any() : random.nextInt(4);
        switch (random.nextInt(16)) {
            case 0: size(i, plane); break;
            case 1: put(i, plane); break;
            case 2: case 3: case 4: case 5: row(i, plane); break;
            case 6: grow(i, plane); break;
            case 7: shrink(i, plane); break;
            case 8: case 9: mix(i); break;
            case 10: copy(i, plane); break;
            case 11: extend(i, plane); break;
            case 12: cut(i, plane); break;
            case 13: at(i, plane); break;
            case 14: eight(i, plane); break;
            default: apartAndLook(i, plane); break;
        }
    }

    private void size(int i, int plane) {
        int w = rarely() ? any() : 1 + random.nextInt(random.nextBoolean() ? 32 : 8);
        int h = rarely() ? any() : 1 + random.nextInt(random.nextBoolean() ? 32 : 8);
        same(i, "size " + plane + " " + w + " " + h,
                () -> { model.size(plane, w, h); return 0; }, () -> { mixer.size(plane, w, h); return 0; });
        if (random.nextBoolean() && plane == 0) {
            for (int p = 1; p < 4; p++) {
                int q = p;
                same(i, "size " + q + " " + w + " " + h,
                        () -> { model.size(q, w, h); return 0; }, () -> { mixer.size(q, w, h); return 0; });
            }
        }
    }

    private void put(int i, int plane) {
        int x = inside(plane, 0);
        int y = inside(plane, 1);
        int value = rarely() ? any() : random.nextInt(256);
        same(i, "put " + plane + " " + x + " " + y + " " + value,
                () -> { model.put(plane, x, y, value); return 0; }, () -> { mixer.put(plane, x, y, value); return 0; });
    }

    private void row(int i, int plane) {
        int x = random.nextBoolean() ? 8 * random.nextInt(4) : inside(plane, 0);
        int y = inside(plane, 1);
        long eight = random.nextLong();
        same(i, "row " + plane + " " + x + " " + y + " " + eight,
                () -> { model.row(plane, x, y, eight); return 0; }, () -> { mixer.row(plane, x, y, eight); return 0; });
    }

    private void grow(int i, int plane) {
        int how = rarely() ? any() : random.nextInt(6);
        same(i, "grow " + plane + " " + how,
                () -> model.grow(plane, how) ? 1 : 0, () -> mixer.grow(plane, how) ? 1 : 0);
    }

    private void shrink(int i, int plane) {
        int how = rarely() ? any() : random.nextInt(3);
        same(i, "shrink " + plane + " " + how,
                () -> model.shrink(plane, how) ? 1 : 0, () -> mixer.shrink(plane, how) ? 1 : 0);
    }

    private void mix(int i) {
        int which = rarely() ? any() : random.nextInt(7);
        if (random.nextInt(3) == 0) {
            int from = random.nextInt(4);
            for (int p = 0; p < 4; p++) {
                copyOne(i, from, p);
            }
        }
        same(i, "mix " + which, () -> model.mix(which) ? 1 : 0, () -> mixer.mix(which) ? 1 : 0);
    }

    private void copy(int i, int plane) {
        copyOne(i, plane, random.nextInt(40) == 0 ? any() : random.nextInt(4));
    }

    private void copyOne(int i, int a, int b) {
        same(i, "copy " + a + " " + b,
                () -> { model.copy(a, b); return 0; }, () -> { mixer.copy(a, b); return 0; });
    }

    private void extend(int i, int plane) {
        int w = rarely() ? any() : side(plane, 0) + random.nextInt(4);
        int h = rarely() ? any() : side(plane, 1) + random.nextInt(4);
        same(i, "extend " + plane + " " + w + " " + h,
                () -> model.extend(plane, w, h) ? 1 : 0, () -> mixer.extend(plane, w, h) ? 1 : 0);
    }

    private void cut(int i, int plane) {
        int w = rarely() ? any() : side(plane, 0) - random.nextInt(4);
        int h = rarely() ? any() : side(plane, 1) - random.nextInt(4);
        same(i, "cut " + plane + " " + w + " " + h,
                () -> model.cut(plane, w, h) ? 1 : 0, () -> mixer.cut(plane, w, h) ? 1 : 0);
    }

    private void at(int i, int plane) {
        int x = inside(plane, 0);
        int y = inside(plane, 1);
        same(i, "at " + plane + " " + x + " " + y, () -> model.at(plane, x, y), () -> mixer.at(plane, x, y));
    }

    private void eight(int i, int plane) {
        int x = inside(plane, 0) - (random.nextInt(4) == 0 ? random.nextInt(9) : 0);
        int y = inside(plane, 1);
        same(i, "eight " + plane + " " + x + " " + y, () -> model.eight(plane, x, y), () -> mixer.eight(plane, x, y));
    }

    private void apartAndLook(int i, int plane) {
        int b = random.nextInt(40) == 0 ? any() : random.nextInt(4);
        int which = rarely() ? any() : random.nextInt(5);
        same(i, "apart " + plane + " " + b, () -> model.apart(plane, b), () -> mixer.apart(plane, b));
        same(i, "look " + plane + " " + which, () -> model.look(plane, which), () -> mixer.look(plane, which));
    }

    private boolean rarely() {
        return random.nextInt(12) == 0;
    }

    private int any() {
        int pick = random.nextInt(EXTREMES.length + 8);
        return pick < EXTREMES.length ? EXTREMES[pick] : pick - EXTREMES.length;
    }

    private int side(int plane, int which) {
        return plane < 0 || plane > 3 ? 1 : model.look(plane, which);
    }

    private int inside(int plane, int which) {
        int side = side(plane, which);
        return rarely() ? any() : random.nextInt(10) == 0 ? side : random.nextInt(side);
    }

    private void same(int i, String what, Checks.Call due, Checks.Call got) {
        checks.due("run " + run + ", call " + i + ": " + what, Checks.told(due), Checks.told(got));
    }

    private void comparePlane(String when, int p) {
        for (int which = 0; which < 5; which++) {
            checks.due(when + ": look " + p + " " + which, model.look(p, which), mixer.look(p, which));
        }
        for (int y = 0; y < model.look(p, 1); y++) {
            for (int x = 0; x < model.look(p, 0); x += 8) {
                checks.due(when + ": eight " + p + " " + x + " " + y, model.eight(p, x, y), mixer.eight(p, x, y));
            }
        }
    }
}
