/** A ToneMixer that refuses its 513th call, since the document leaves free what it would answer. */
final class CountedMixer {
    static final int MOST = 512;

    private final ToneMixer mixer = new ToneMixer();
    private int calls = 0;

    int left() {
        return MOST - calls;
    }

    private ToneMixer next() {
        calls++;
        if (calls > MOST) {
            throw new AssertionError("a test makes more than 512 calls on one object");
        }
        return mixer;
    }

    void size(int plane, int w, int h) {
        next().size(plane, w, h);
    }

    void put(int plane, int x, int y, int value) {
        next().put(plane, x, y, value);
    }

    void row(int plane, int x, int y, long eight) {
        next().row(plane, x, y, eight);
    }

    boolean grow(int plane, int how) {
        return next().grow(plane, how);
    }

    boolean shrink(int plane, int how) {
        return next().shrink(plane, how);
    }

    boolean mix(int which) {
        return next().mix(which);
    }

    void copy(int a, int b) {
        next().copy(a, b);
    }

    boolean extend(int plane, int w, int h) {
        return next().extend(plane, w, h);
    }

    boolean cut(int plane, int w, int h) {
        return next().cut(plane, w, h);
    }

    int at(int plane, int x, int y) {
        return next().at(plane, x, y);
    }

    long eight(int plane, int x, int y) {
        return next().eight(plane, x, y);
    }

    int apart(int a, int b) {
        return next().apart(a, b);
    }

    int look(int plane, int which) {
        return next().look(plane, which);
    }
}
