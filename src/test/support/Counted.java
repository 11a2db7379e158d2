/** A UnitText whose calls are counted: what it answers behind the 512th is free, so no test may ask for it. */
final class Counted {
    static final int MOST_CALLS = 512;

    private final UnitText x = new UnitText();
    private int calls = 0;

    int callsLeft() {
        return MOST_CALLS - calls;
    }

    private UnitText next() {
        if (calls == MOST_CALLS) {
            throw new AssertionError("a test makes more than " + MOST_CALLS + " calls on one object");
        }
        calls++;
        return x;
    }

    void feed(int a, int b, int c, int d, int e) {
        next().feed(a, b, c, d, e);
    }

    int end(int n) {
        return next().end(n);
    }

    int read() {
        return next().read();
    }

    int fault(int what) {
        return next().fault(what);
    }

    int count(int what) {
        return next().count(what);
    }

    int statement(int k, int what) {
        return next().statement(k, what);
    }

    int operand(int j, int what) {
        return next().operand(j, what);
    }

    long constant(int j) {
        return next().constant(j);
    }

    int item(int t, int what) {
        return next().item(t, what);
    }

    int name(int k, int i) {
        return next().name(k, i);
    }

    int string(int j, int i) {
        return next().string(j, i);
    }

    int find(long first, long second) {
        return next().find(first, second);
    }

    int tell(int k) {
        return next().tell(k);
    }

    int letter(int i) {
        return next().letter(i);
    }
}
