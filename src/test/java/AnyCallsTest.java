import java.util.Random;

/** Calls with any arguments, in any order: nothing but read() throws, and it only what the document names. */
public final class AnyCallsTest {
    private static final int[] EDGES = {0, 1, 2, -1, 19, 20, 21, 59, 60, 149, 150, 399, 400, 799, 800, 1999, 2000, 2999, 3000,
        5999, 6000, Integer.MAX_VALUE, Integer.MIN_VALUE, 0x20202020, 0x28282828, 0x2D2D2D2D, 0x61203120, 0x0A613A20,
        0x22222222, 0x5C5C5C5C, 0x27272727, 0x312C312C, 0x2B312B31, 0x613A613A};
    private static final Random CHANCE = new Random(1);
    /** No turn of one() makes more calls than so many. */
    private static final int MOST_OF_ONE = 5;

    private static int any() {
        int sort = CHANCE.nextInt(4);
        return sort == 0 ? CHANCE.nextInt() : sort == 1 ? CHANCE.nextInt(10) : EDGES[CHANCE.nextInt(EDGES.length)];
    }

    private static long one(Counted x) {
        switch (CHANCE.nextInt(18)) {
            case 0:
            case 1:
            case 2:
                x.feed(any(), any(), any(), any(), any());
                return x.end(CHANCE.nextInt(21));
            case 3:
                return x.end(any());
            case 4:
                return readOf(x);
            case 5:
                return x.fault(any());
            case 6:
                return x.count(any());
            case 7:
                return x.statement(any(), any());
            case 8:
                return x.operand(any(), any());
            case 9:
                return x.constant(any());
            case 10:
                return x.item(any(), any());
            case 11:
                return x.name(any(), any());
            case 12:
                return x.string(any(), any());
            case 13:
                return x.find((long) any() << 32 | any(), (long) any() << 32 | any());
            case 14:
                return x.tell(any());
            case 15:
                return x.letter(any());
            default:
                Checks.put(x, EDGES[CHANCE.nextInt(EDGES.length)] % 2 == 0 ? "a 1+b(sp),\"s\"\n" : "1: x: w -(2)");
                return 0;
        }
    }

    private static long readOf(Counted x) {
        try {
            int n = x.read();
            Checks.due("what read() tells is counted", x.count(0), n);
            return n;
        } catch (IllegalArgumentException e) {
            Checks.due("the very class", e.getClass() == IllegalArgumentException.class ? 1 : 0, 1);
            Checks.due("a fault is 1 .. 8", x.fault(0) >= 1 && x.fault(0) <= 8 ? 1 : 0, 1);
            Checks.due("its place is within the TEXT", x.fault(1) >= 0 && x.fault(1) <= 3000 ? 1 : 0, 1);
            return -1;
        }
    }

    /** A TEXT as long as can be, of bytes that often make words. */
    private static void fill(Counted x) {
        for (int n = 1; n <= 150; n++) {
            int four = EDGES[CHANCE.nextInt(EDGES.length)];
            x.feed(four, four, four, CHANCE.nextInt(100) == 0 ? any() : four, 0x20312C31);
            Checks.due("TEXT of " + 20 * n, x.end(20), 20 * n);
        }
        readOf(x);
    }

    public static void main(String[] args) {
        for (int run = 0; run < 500; run++) {
            Counted x = new Counted();
            if (run % 5 == 0) {
                fill(x);
            }
            while (x.callsLeft() >= MOST_OF_ONE) {
                one(x);
            }
        }
        Checks.finish();
    }
}
