import java.util.Arrays;

/** A plane as rows of samples: filled, read and told by calls of the face alone. */
final class Grid {
    static final int EIGHT = 8;

    private Grid() {
    }

    /** One call for the size, and one for each eight samples of a row. */
    static void fill(CountedMixer t, int plane, int[][] rows) {
        t.size(plane, rows[0].length, rows.length);
        for (int y = 0; y < rows.length; y++) {
            for (int x = 0; x < rows[y].length; x += EIGHT) {
                t.row(plane, x, y, bytes(rows[y], x));
            }
        }
    }

    /** The samples from x on as the bytes of a long, 0 behind the row's end. */
    static long bytes(int[] row, int x) {
        long bytes = 0;
        for (int i = x; i < x + EIGHT; i++) {
            bytes = bytes * 256 + (i < row.length ? row[i] : 0);
        }
        return bytes;
    }

    /** Two calls for the sides, and one for each eight samples of a row. */
    static String of(CountedMixer t, int plane) {
        int w = t.look(plane, 0);
        int h = t.look(plane, 1);
        StringBuilder text = start(w, h);
        for (int y = 0; y < h; y++) {
            for (int x = 0; x < w; x += EIGHT) {
                append(text, t.eight(plane, x, y), Math.min(EIGHT, w - x));
            }
            text.append(" /");
        }
        return text.toString();
    }

    static String text(int[][] rows) {
        StringBuilder text = start(rows[0].length, rows.length);
        for (int[] row : rows) {
            for (int x = 0; x < row.length; x += EIGHT) {
                append(text, bytes(row, x), Math.min(EIGHT, row.length - x));
            }
            text.append(" /");
        }
        return text.toString();
    }

    private static StringBuilder start(int w, int h) {
        return new StringBuilder().append(w).append(" by ").append(h).append(':');
    }

    // What stands behind the row's end is told too, if it is not 0 as it is due to be.
    private static void append(StringBuilder text, long bytes, int count) {
        for (int i = 0; i < EIGHT; i++) {
            long sample = bytes >>> 8 * (EIGHT - 1 - i) & 255;
            if (i < count || sample != 0) {
                text.append(' ').append(sample);
            }
        }
    }

    static int[][] all(int w, int h, int sample) {
        int[][] rows = new int[h][w];
        for (int[] row : rows) {
            Arrays.fill(row, sample);
        }
        return rows;
    }

    /** Samples 1 .. 255, with neighbours that are far from each other, across as well as down. */
    static int[][] mottled(int w, int h) {
        int[][] rows = new int[h][w];
        for (int y = 0; y < h; y++) {
            for (int x = 0; x < w; x++) {
                rows[y][x] = 1 + (97 * x + 139 * y) % 255;
            }
        }
        return rows;
    }

    static int[][] turned(int[][] rows) {
        int[][] made = new int[rows[0].length][rows.length];
        for (int y = 0; y < rows.length; y++) {
            for (int x = 0; x < rows[0].length; x++) {
                made[x][y] = rows[y][x];
            }
        }
        return made;
    }
}
