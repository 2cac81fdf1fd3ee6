/**
 * The document's words over again, as plainly and wastefully as they can be told: a grid of longs
 * for each plane, made anew by each call, and divisions where the document shifts.
 */
final class ToneModel {
    private final long[][][] planes = new long[4][1][1];

    void size(int plane, int w, int h) {
        known(plane);
        if (w < 1 || w > 32 || h < 1 || h > 32) {
            throw new IllegalArgumentException();
        }
        planes[plane] = new long[h][w];
    }

    void put(int plane, int x, int y, int value) {
        known(plane, x, y);
        if (value < 0 || value > 255) {
            throw new IllegalArgumentException();
        }
        planes[plane][y][x] = value;
    }

    void row(int plane, int x, int y, long eight) {
        known(plane, x, y);
        String hex = String.format("%016x", eight);
        for (int i = 0; i < 8; i++) {
            if (x + i < width(plane)) {
                planes[plane][y][x + i] = Long.parseLong(hex.substring(2 * i, 2 * i + 2), 16);
            }
        }
    }

    boolean grow(int plane, int how) {
        known(plane);
        boolean triangles = how == 1 || how == 3 || how == 5;
        long[][] old = planes[plane];
        long[][] grown;
        if (how == 0 || how == 1) {
            grown = across(old, triangles);
        } else if (how == 2 || how == 3) {
            grown = turned(across(turned(old), triangles));
        } else if (how == 4 || how == 5) {
            grown = turned(across(turned(across(old, triangles)), triangles));
        } else {
            return false;
        }
        if (grown.length > 32 || grown[0].length > 32) {
            return false;
        }
        planes[plane] = grown;
        return true;
    }

    private static long[][] across(long[][] old, boolean triangles) {
        long[][] grown = new long[old.length][2 * old[0].length];
        for (int y = 0; y < old.length; y++) {
            for (int x = 0; x < old[y].length; x++) {
                grown[y][2 * x] = old[y][x];
                grown[y][2 * x + 1] = old[y][x];
                if (triangles && x != 0) {
                    grown[y][2 * x] = shifted(3 * old[y][x] + old[y][x - 1] + 1, 2);
                }
                if (triangles && x != old[y].length - 1) {
                    grown[y][2 * x + 1] = shifted(3 * old[y][x] + old[y][x + 1] + 2, 2);
                }
            }
        }
        return grown;
    }

    boolean shrink(int plane, int how) {
        known(plane);
        if (how == 0) {
            planes[plane] = halved(planes[plane]);
        } else if (how == 1) {
            planes[plane] = turned(halved(turned(planes[plane])));
        } else if (how == 2) {
            planes[plane] = quartered(planes[plane]);
        } else {
            return false;
        }
        return true;
    }

    private static long[][] halved(long[][] old) {
        long[][] even = evenAcross(old);
        long[][] small = new long[even.length][even[0].length / 2];
        for (int y = 0; y < small.length; y++) {
            for (int x = 0; x < small[y].length; x++) {
                small[y][x] = shifted(even[y][2 * x] + even[y][2 * x + 1] + x % 2, 1);
            }
        }
        return small;
    }

    private static long[][] quartered(long[][] old) {
        long[][] even = turned(evenAcross(turned(evenAcross(old))));
        long[][] small = new long[even.length / 2][even[0].length / 2];
        for (int y = 0; y < small.length; y++) {
            for (int x = 0; x < small[y].length; x++) {
                long sum = even[2 * y][2 * x] + even[2 * y][2 * x + 1]
                        + even[2 * y + 1][2 * x] + even[2 * y + 1][2 * x + 1];
                small[y][x] = shifted(sum + 1 + x % 2, 2);
            }
        }
        return small;
    }

    private static long[][] evenAcross(long[][] old) {
        int w = old[0].length;
        return extended(old, w % 2 == 0 ? w : w + 1, old.length);
    }

    boolean mix(int which) {
        if (which < 0 || which > 6 || !alike(0, 1) || !alike(0, 2) || which == 3 && !alike(0, 3)) {
            return false;
        }
        if (which == 5) {
            return mix(0) && mix(2);
        }
        if (which == 6) {
            return mix(2) && mix(1);
        }
        for (int y = 0; y < height(0); y++) {
            for (int x = 0; x < width(0); x++) {
                long d = which == 3 ? planes[3][y][x] : 0;
                long[] mixed = mixed(which, planes[0][y][x], planes[1][y][x], planes[2][y][x], d);
                for (int p = 0; p < 3; p++) {
                    planes[p][y][x] = mixed[p];
                }
            }
        }
        return true;
    }

    private static long[] mixed(int which, long a, long b, long c, long d) {
        long grey = shifted(19595 * a + 38470 * b + 7471 * c + 32768, 16);
        long p = b - 128;
        long q = c - 128;
        switch (which) {
            case 0:
                return new long[] {
                    limit(a + shifted(91881 * q + 32768, 16)),
                    limit(a + shifted(-22554 * p - 46802 * q + 32768, 16)),
                    limit(a + shifted(116130 * p + 32768, 16))};
            case 1:
                return new long[] {
                    grey,
                    shifted(-11059 * a - 21709 * b + 32768 * c + 8421375, 16),
                    shifted(32768 * a - 27439 * b - 5329 * c + 8421375, 16)};
            case 2:
                return new long[] {255 - a, 255 - b, 255 - c};
            case 3:
                return new long[] {
                    Math.floorDiv(a * (255 - d) + 127, 255L),
                    Math.floorDiv(b * (255 - d) + 127, 255L),
                    Math.floorDiv(c * (255 - d) + 127, 255L)};
            default:
                return new long[] {grey, grey, grey};
        }
    }

    void copy(int a, int b) {
        known(a);
        known(b);
        planes[b] = extended(planes[a], width(a), height(a));
    }

    boolean extend(int plane, int w, int h) {
        known(plane);
        if (w < width(plane) || h < height(plane) || w > 32 || h > 32) {
            return false;
        }
        planes[plane] = extended(planes[plane], w, h);
        return true;
    }

    boolean cut(int plane, int w, int h) {
        known(plane);
        if (w < 1 || h < 1 || w > width(plane) || h > height(plane)) {
            return false;
        }
        planes[plane] = extended(planes[plane], w, h);
        return true;
    }

    // The nearest old sample for each new one: what is wider repeats, what is narrower is cut.
    private static long[][] extended(long[][] old, int w, int h) {
        long[][] made = new long[h][w];
        for (int y = 0; y < h; y++) {
            for (int x = 0; x < w; x++) {
                made[y][x] = old[y < old.length ? y : old.length - 1][x < old[0].length ? x : old[0].length - 1];
            }
        }
        return made;
    }

    int at(int plane, int x, int y) {
        known(plane, x, y);
        return (int) planes[plane][y][x];
    }

    long eight(int plane, int x, int y) {
        known(plane);
        long bytes = 0;
        for (long i = x; i < x + 8L; i++) {
            boolean there = i >= 0 && i < width(plane) && y >= 0 && y < height(plane);
            bytes = bytes * 256 + (there ? planes[plane][y][(int) i] : 0);
        }
        return bytes;
    }

    int apart(int a, int b) {
        known(a);
        known(b);
        if (!alike(a, b)) {
            return -1;
        }
        long most = 0;
        for (int y = 0; y < height(a); y++) {
            for (int x = 0; x < width(a); x++) {
                most = Math.max(most, planes[a][y][x] - planes[b][y][x]);
                most = Math.max(most, planes[b][y][x] - planes[a][y][x]);
            }
        }
        return (int) most;
    }

    int look(int plane, int which) {
        known(plane);
        long sum = 0;
        long least = 999;
        long greatest = -999;
        for (long[] row : planes[plane]) {
            for (long v : row) {
                sum += v;
                least = Math.min(least, v);
                greatest = Math.max(greatest, v);
            }
        }
        long[] answers = {width(plane), height(plane), sum, least, greatest};
        return which < 0 || which > 4 ? -1 : (int) answers[which];
    }

    private int width(int plane) {
        return planes[plane][0].length;
    }

    private int height(int plane) {
        return planes[plane].length;
    }

    private boolean alike(int a, int b) {
        return width(a) == width(b) && height(a) == height(b);
    }

    private void known(int plane) {
        if (plane < 0 || plane > 3) {
            throw new IndexOutOfBoundsException();
        }
    }

    private void known(int plane, int x, int y) {
        known(plane);
        if (x < 0 || y < 0 || x >= width(plane) || y >= height(plane)) {
            throw new IndexOutOfBoundsException();
        }
    }

    private static long[][] turned(long[][] old) {
        long[][] made = new long[old[0].length][old.length];
        for (int y = 0; y < old.length; y++) {
            for (int x = 0; x < old[0].length; x++) {
                made[x][y] = old[y][x];
            }
        }
        return made;
    }

    private static long shifted(long v, int s) {
        return Math.floorDiv(v, 1L << s);
    }

    private static long limit(long v) {
        return v < 0 ? 0 : v > 255 ? 255 : v;
    }
}
