import java.util.Arrays;

/**
 * Planes of samples that grow and shrink by two, and are mixed from one kind of colours into
 * another, by whole numbers alone.
 */
public final class ToneMixer {
    /** There is none. */
    public static final int NONE = -1;

    private static final int PLANES = 4;
    private static final int COLOURS = 3;
    private static final int LONGEST = 32;
    private static final int GREATEST = 255;
    private static final int BYTES_OF_LONG = 8;

    private static final int OPEN = 0;
    private static final int CLOSE = 1;
    private static final int INVERT = 2;
    private static final int DARKEN = 3;
    private static final int GREY = 4;
    private static final int OPEN_INVERT = 5;
    private static final int INVERT_CLOSE = 6;

    private final Plane[] planes;

    public ToneMixer() {
        planes = new Plane[PLANES];
        for (int i = 0; i < PLANES; i++) {
            planes[i] = new Plane();
        }
    }

    public void size(int plane, int w, int h)
            throws IndexOutOfBoundsException, IllegalArgumentException {
        Plane p = planeOf(plane);
        if (w < 1 || w > LONGEST || h < 1 || h > LONGEST) {
            throw new IllegalArgumentException("a side is not 1 .. 32");
        }
        p.empty(w, h);
    }

    public void put(int plane, int x, int y, int value)
            throws IndexOutOfBoundsException, IllegalArgumentException {
        Plane p = planeWith(plane, x, y);
        if (value < 0 || value > GREATEST) {
            throw new IllegalArgumentException("a sample is not 0 .. 255");
        }
        p.samples[placeOf(x, y)] = value;
    }

    public void row(int plane, int x, int y, long eight) throws IndexOutOfBoundsException {
        Plane p = planeWith(plane, x, y);
        for (int i = 0; i < BYTES_OF_LONG && x + i < p.w; i++) {
            p.samples[placeOf(x + i, y)] = (int) (eight >>> shiftOfByte(i)) & GREATEST;
        }
    }

    public boolean grow(int plane, int how) throws IndexOutOfBoundsException {
        Plane p = planeOf(plane);
        if (how < 0 || how > 5) {
            return false;
        }
        boolean across = how < 2 || how > 3;
        boolean down = how > 1;
        // Both sides are tested before either grows: what answers false changes nothing.
        if (across && 2 * p.w > LONGEST || down && 2 * p.h > LONGEST) {
            return false;
        }
        boolean triangles = how % 2 == 1;
        if (across) {
            p.growAcross(triangles);
        }
        if (down) {
            p.growDown(triangles);
        }
        return true;
    }

    public boolean shrink(int plane, int how) throws IndexOutOfBoundsException {
        Plane p = planeOf(plane);
        switch (how) {
            case 0:
                p.shrinkAcross();
                return true;
            case 1:
                p.shrinkDown();
                return true;
            case 2:
                p.shrinkBoth();
                return true;
            default:
                return false;
        }
    }

    public boolean mix(int which) {
        if (which < OPEN || which > INVERT_CLOSE) {
            return false;
        }
        if (!firstAreOfOneSize(which == DARKEN ? PLANES : COLOURS)) {
            return false;
        }
        for (int y = 0; y < planes[0].h; y++) {
            for (int x = 0; x < planes[0].w; x++) {
                mixPlace(which, placeOf(x, y));
            }
        }
        return true;
    }

    public void copy(int a, int b) throws IndexOutOfBoundsException {
        Plane from = planeOf(a);
        Plane to = planeOf(b);
        to.becomeLike(from);
    }

    public boolean extend(int plane, int w, int h) throws IndexOutOfBoundsException {
        Plane p = planeOf(plane);
        if (w < p.w || w > LONGEST || h < p.h || h > LONGEST) {
            return false;
        }
        p.widen(w);
        p.deepen(h);
        return true;
    }

    public boolean cut(int plane, int w, int h) throws IndexOutOfBoundsException {
        Plane p = planeOf(plane);
        if (w < 1 || w > p.w || h < 1 || h > p.h) {
            return false;
        }
        p.w = w;
        p.h = h;
        return true;
    }

    public int at(int plane, int x, int y) throws IndexOutOfBoundsException {
        return planeWith(plane, x, y).samples[placeOf(x, y)];
    }

    public long eight(int plane, int x, int y) throws IndexOutOfBoundsException {
        Plane p = planeOf(plane);
        long bytes = 0;
        for (int i = 0; i < BYTES_OF_LONG; i++) {
            // Where x + i wraps round it is far below 0, and there is no such sample either.
            if (p.has(x + i, y)) {
                bytes |= (long) p.samples[placeOf(x + i, y)] << shiftOfByte(i);
            }
        }
        return bytes;
    }

    public int apart(int a, int b) throws IndexOutOfBoundsException {
        Plane one = planeOf(a);
        Plane other = planeOf(b);
        return one.isOfSizeOf(other) ? one.greatestDifference(other) : NONE;
    }

    public int look(int plane, int which) throws IndexOutOfBoundsException {
        Plane p = planeOf(plane);
        switch (which) {
            case 0:
                return p.w;
            case 1:
                return p.h;
            case 2:
                return p.sum();
            case 3:
                return p.least();
            case 4:
                return p.greatest();
            default:
                return NONE;
        }
    }

    private Plane planeOf(int number) {
        if (number < 0 || number >= PLANES) {
            throw new IndexOutOfBoundsException("no such plane");
        }
        return planes[number];
    }

    private Plane planeWith(int number, int x, int y) {
        Plane p = planeOf(number);
        if (!p.has(x, y)) {
            throw new IndexOutOfBoundsException("no such sample");
        }
        return p;
    }

    private static int placeOf(int x, int y) {
        return y * LONGEST + x;
    }

    private static int shiftOfByte(int i) {
        return 8 * (BYTES_OF_LONG - 1 - i);
    }

    private boolean firstAreOfOneSize(int count) {
        for (int i = 1; i < count; i++) {
            if (!planes[i].isOfSizeOf(planes[0])) {
                return false;
            }
        }
        return true;
    }

    // A mix looks at one place alone, so two mixes may follow each other place by place.
    private void mixPlace(int which, int place) {
        switch (which) {
            case OPEN:
                open(place);
                break;
            case CLOSE:
                close(place);
                break;
            case INVERT:
                invert(place);
                break;
            case DARKEN:
                darken(place);
                break;
            case GREY:
                grey(place);
                break;
            case OPEN_INVERT:
                open(place);
                invert(place);
                break;
            case INVERT_CLOSE:
                invert(place);
                close(place);
                break;
            default:
                break;
        }
    }

    private void open(int place) {
        int a = planes[0].samples[place];
        int p = planes[1].samples[place] - 128;
        int q = planes[2].samples[place] - 128;
        setColours(place,
                limit(a + shifted(91881 * q + 32768)),
                limit(a + shifted(-22554 * p - 46802 * q + 32768)),
                limit(a + shifted(116130 * p + 32768)));
    }

    // No limit is needed: the weights of each sum keep it within 0 .. 255.
    private void close(int place) {
        int a = planes[0].samples[place];
        int b = planes[1].samples[place];
        int c = planes[2].samples[place];
        setColours(place,
                brightness(a, b, c),
                shifted(-11059 * a - 21709 * b + 32768 * c + 8421375),
                shifted(32768 * a - 27439 * b - 5329 * c + 8421375));
    }

    private void invert(int place) {
        setColours(place,
                GREATEST - planes[0].samples[place],
                GREATEST - planes[1].samples[place],
                GREATEST - planes[2].samples[place]);
    }

    private void darken(int place) {
        int light = GREATEST - planes[3].samples[place];
        setColours(place,
                darkened(planes[0].samples[place], light),
                darkened(planes[1].samples[place], light),
                darkened(planes[2].samples[place], light));
    }

    private void grey(int place) {
        int tone = brightness(
                planes[0].samples[place], planes[1].samples[place], planes[2].samples[place]);
        setColours(place, tone, tone, tone);
    }

    private void setColours(int place, int a, int b, int c) {
        planes[0].samples[place] = a;
        planes[1].samples[place] = b;
        planes[2].samples[place] = c;
    }

    private static int darkened(int sample, int light) {
        return (sample * light + 127) / GREATEST;
    }

    private static int brightness(int a, int b, int c) {
        return shifted(19595 * a + 38470 * b + 7471 * c + 32768);
    }

    private static int shifted(int v) {
        return v >> 16;
    }

    private static int limit(int v) {
        return Math.max(0, Math.min(GREATEST, v));
    }

    /**
     * One plane, with w and h always 1 .. 32. Each row has the room of the longest one, so that a
     * sample keeps its place when w changes; what lies outside w by h is never read.
     */
    private static final class Plane {
        final int[] samples = new int[LONGEST * LONGEST];
        int w = 1;
        int h = 1;
        private final int[] line = new int[LONGEST];

        boolean has(int x, int y) {
            return x >= 0 && x < w && y >= 0 && y < h;
        }

        boolean isOfSizeOf(Plane other) {
            return w == other.w && h == other.h;
        }

        void empty(int newW, int newH) {
            Arrays.fill(samples, 0);
            w = newW;
            h = newH;
        }

        void becomeLike(Plane other) {
            System.arraycopy(other.samples, 0, samples, 0, samples.length);
            w = other.w;
            h = other.h;
        }

        void growAcross(boolean triangles) {
            for (int y = 0; y < h; y++) {
                growLine(placeOf(0, y), 1, w, triangles);
            }
            w = 2 * w;
        }

        void growDown(boolean triangles) {
            for (int x = 0; x < w; x++) {
                growLine(placeOf(x, 0), LONGEST, h, triangles);
            }
            h = 2 * h;
        }

        private void growLine(int start, int step, int length, boolean triangles) {
            for (int i = 0; i < length; i++) {
                line[i] = samples[start + i * step];
            }
            for (int i = 0; i < length; i++) {
                int own = line[i];
                // With itself as its neighbour a triangle answers the sample, so it is a box.
                int before = triangles && i > 0 ? line[i - 1] : own;
                int after = triangles && i + 1 < length ? line[i + 1] : own;
                samples[start + 2 * i * step] = (3 * own + before + 1) >> 2;
                samples[start + (2 * i + 1) * step] = (3 * own + after + 2) >> 2;
            }
        }

        void shrinkAcross() {
            for (int y = 0; y < h; y++) {
                shrinkLine(placeOf(0, y), 1, w);
            }
            w = half(w);
        }

        void shrinkDown() {
            for (int x = 0; x < w; x++) {
                shrinkLine(placeOf(x, 0), LONGEST, h);
            }
            h = half(h);
        }

        // Shrinking works in place: a sample is read no later than its place is written.
        private void shrinkLine(int start, int step, int length) {
            for (int i = 0; i < half(length); i++) {
                int one = samples[start + 2 * i * step];
                int next = samples[start + Math.min(2 * i + 1, length - 1) * step];
                samples[start + i * step] = (one + next + i % 2) >> 1;
            }
        }

        void shrinkBoth() {
            for (int y = 0; y < half(h); y++) {
                for (int x = 0; x < half(w); x++) {
                    samples[placeOf(x, y)] = (sumOfFour(2 * x, 2 * y) + 1 + x % 2) >> 2;
                }
            }
            w = half(w);
            h = half(h);
        }

        private int sumOfFour(int x, int y) {
            int right = Math.min(x + 1, w - 1);
            int below = Math.min(y + 1, h - 1);
            return samples[placeOf(x, y)] + samples[placeOf(right, y)]
                    + samples[placeOf(x, below)] + samples[placeOf(right, below)];
        }

        private static int half(int side) {
            return (side + 1) / 2;
        }

        void widen(int newW) {
            for (int y = 0; y < h; y++) {
                int last = samples[placeOf(w - 1, y)];
                for (int x = w; x < newW; x++) {
                    samples[placeOf(x, y)] = last;
                }
            }
            w = newW;
        }

        void deepen(int newH) {
            for (int x = 0; x < w; x++) {
                int last = samples[placeOf(x, h - 1)];
                for (int y = h; y < newH; y++) {
                    samples[placeOf(x, y)] = last;
                }
            }
            h = newH;
        }

        int greatestDifference(Plane other) {
            int most = 0;
            for (int y = 0; y < h; y++) {
                for (int x = 0; x < w; x++) {
                    int place = placeOf(x, y);
                    most = Math.max(most, Math.abs(samples[place] - other.samples[place]));
                }
            }
            return most;
        }

        int sum() {
            int sum = 0;
            for (int y = 0; y < h; y++) {
                for (int x = 0; x < w; x++) {
                    sum += samples[placeOf(x, y)];
                }
            }
            return sum;
        }

        int least() {
            int least = GREATEST;
            for (int y = 0; y < h; y++) {
                for (int x = 0; x < w; x++) {
                    least = Math.min(least, samples[placeOf(x, y)]);
                }
            }
            return least;
        }

        int greatest() {
            int greatest = 0;
            for (int y = 0; y < h; y++) {
                for (int x = 0; x < w; x++) {
                    greatest = Math.max(greatest, samples[placeOf(x, y)]);
                }
            }
            return greatest;
        }
    }
}
