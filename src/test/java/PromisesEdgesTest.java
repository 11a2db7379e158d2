/** The boundaries that the promises name, a test for each sentence; also what a refused call leaves as it was. */
public final class PromisesEdgesTest {
    private static final int NONE = -1;
    private static final int LEAST = Integer.MIN_VALUE;
    private static final int MOST = Integer.MAX_VALUE;
    private static final int BLANKS = 0x20202020;
    private static final String ALL_SORTS = "a: 7: w a0, 1+2, 4(sp), \"xyz\", %lo(b)\nv\n";

    public static void main(String[] args) throws Exception {
        Checks.runSentences(PromisesEdgesTest.class);
        Checks.finish();
    }

    private static void feedBlanks(Counted x) {
        x.feed(BLANKS, BLANKS, BLANKS, BLANKS, BLANKS);
    }

    private static void fill(Counted x, int bytes) {
        Checks.put(x, Checks.many(" ", bytes, ""));
    }

    /** All that ALL_SORTS leaves to be told, one after the other. */
    private static String allOf(Counted x) {
        StringBuilder b = new StringBuilder();
        for (int what = 0; what < 4; what++) {
            b.append(x.count(what)).append(' ');
        }
        for (int k = 0; k < 4; k++) {
            b.append(x.statement(k, 1)).append(' ').append(x.statement(k, 4)).append(' ');
        }
        for (int j = 0; j < 5; j++) {
            b.append(x.operand(j, 0)).append(' ').append(x.constant(j)).append(' ').append(Checks.itemsOf(x, j)).append(' ');
        }
        return b.append(Checks.stringOf(x, 3)).append(' ').append(Checks.nameOf(x, 2)).append(' ').append(Checks.told(x, 2)).toString();
    }

    // What stands ahead of the promises

    static void answersUpToCall512() {
        Checks.sentence("What it is", "An object is used for at most 512 calls after it has been made;");
        Counted x = new Counted();
        for (int round = 1; round <= 128; round++) {
            x.feed(0x61203120, 0, 0, 0, 0);
            Checks.due("call " + (4 * round - 2), x.end(3), 3);
            Checks.due("call " + (4 * round - 1), x.read(), 1);
            Checks.due("call " + 4 * round, x.constant(0), 1);
        }
    }

    static void theConstants() {
        Checks.sentence("The constants", "`NOTHING = 1L << 40`: What is told when there is no CONSTANT.");
        Checks.due("NOTHING", UnitText.NOTHING, 1099511627776L);
        Checks.due("NONE", UnitText.NONE, -1);
        Checks.due("told when there is none", new Counted().constant(0), 1099511627776L);
    }

    // Promise 1

    static void promise1NothingWasRead() {
        Checks.sentence("Promise 1", "No TEXT; nothing was read.");
        Counted x = new Counted();
        Checks.due("no TEXT", x.end(0), 0);
        for (int what = 0; what < 4; what++) {
            Checks.due("count " + what, x.count(what), 0);
            Checks.due("statement 0, " + what, x.statement(0, what), NONE);
            Checks.due("operand 0, " + what, x.operand(0, what), NONE);
            Checks.due("item 0, " + what, x.item(0, what), 0);
        }
        Checks.due("fault 0", x.fault(0), 0);
        Checks.due("fault 1", x.fault(1), NONE);
        Checks.due("constant", x.constant(0), UnitText.NOTHING);
        Checks.due("name", x.name(0, 0), NONE);
        Checks.due("string", x.string(0, 0), NONE);
        Checks.due("find", x.find('a', 0), NONE);
        Checks.due("find nothing", x.find(0, 0), NONE);
        Checks.due("tell", x.tell(0), NONE);
        Checks.due("letter", x.letter(0), NONE);
        Checks.same("what there is of a TEXT", Checks.outcome(x, ""), "read 0");
    }

    static void promise1ObjectsAreApart() {
        Checks.sentence("Promise 1", "`UnitText()`: No TEXT; nothing was read.");
        Counted x = Checks.reader(ALL_SORTS);
        x.tell(0);
        feedBlanks(x);
        x.end(4);
        Counted y = new Counted();
        Checks.due("another's TEXT", y.end(0), 0);
        Checks.due("another's STATEMENTS", y.count(0), 0);
        Checks.due("another's OUT", y.letter(0), NONE);
        Checks.same("another's fault", Checks.outcome(y, "$"), "fault 1 at 0");
        Checks.due("its own", x.fault(0), 0);
        Checks.due("its own STATEMENTS", x.count(0), 4);
    }

    // Promise 2

    static void promise2TwentyBytesTheHighestFirst() {
        Checks.sentence("Promise 2", "Twenty bytes wait, those of a first, the highest of each first.");
        Counted x = new Counted();
        x.feed(0x77202261, 0x62636465, 0x66676869, 0x6A6B6C6D, 0x6E6F7022);
        Checks.due("twenty", x.end(20), 20);
        Checks.same("read", Checks.outcome(x, ""), "read 1");
        Checks.same("in their order", Checks.told(x, 0), "w \"abcdefghijklmnop\"");
        x.feed(-1, -1, -1, -1, -1);
        Checks.due("bytes of 255", x.end(20), 20);
        Checks.same("bytes of 255 are read", Checks.outcome(x, ""), "fault 1 at 0");
        x.feed(0x23202020, BLANKS, 0x202020FF, BLANKS, LEAST);
        Checks.due("a byte of 255 among others", x.end(20), 20);
        Checks.same("its place", Checks.outcome(x, ""), "fault 1 at 11");
        x.feed(0x23202020, BLANKS, BLANKS, BLANKS, 0x20202080);
        x.end(20);
        Checks.same("the twentieth", Checks.outcome(x, ""), "fault 1 at 19");
        x.feed(0x61616161, 0x61616161, 0, 0, 0);
        x.feed(0x6262620A, 0, 0, 0, 0);
        Checks.due("fed again: no more than twenty wait", x.end(4), 4);
        Checks.same("fed again", Checks.outcome(x, ""), "read 1");
        Checks.same("fed again: those wait", Checks.told(x, 0), "bbb");
    }

    static void promise2ZerosAtFirst() {
        Checks.sentence("Promise 2", "(They are 0 at first,");
        Counted x = new Counted();
        Checks.due("without feed", x.end(20), 20);
        Checks.same("a byte 0 begins no word", Checks.outcome(x, ""), "fault 1 at 0");
        for (int n = 0; n <= 20; n++) {
            Counted y = new Counted();
            Checks.due("the first " + n, y.end(n), n);
            Checks.same("the first " + n + " read", Checks.outcome(y, ""), n == 0 ? "read 0" : "fault 1 at 0");
        }
    }

    static void promise2ZerosBehindEnd() {
        Checks.sentence("Promise 2", "and behind each end() that is not refused.)");
        for (int n = 0; n <= 20; n++) {
            Counted x = new Counted();
            feedBlanks(x);
            Checks.due("end " + n, x.end(n), n);
            Checks.due("and twenty more", x.end(20), n + 20);
            Checks.same("those are 0", Checks.outcome(x, ""), "fault 1 at " + n);
        }
        Counted y = new Counted();
        feedBlanks(y);
        Checks.due("refused", y.end(21), NONE);
        Checks.due("refused, too", y.end(-1), NONE);
        Checks.due("then all twenty", y.end(20), 20);
        Checks.same("they had stayed", Checks.outcome(y, ""), "read 0");
        fill(y, 2990);
        feedBlanks(y);
        Checks.due("refused as there is no room", y.end(11), NONE);
        Checks.due("then ten", y.end(10), 3000);
        Checks.same("those had stayed, too", Checks.outcome(y, ""), "read 0");
    }

    // Promise 3

    static void promise3HowManyItHas() {
        Checks.sentence("Promise 3", "The first n of the bytes that wait come behind the TEXT: how many it has.");
        Counted x = new Counted();
        int all = 0;
        for (int n = 0; n <= 20; n++) {
            feedBlanks(x);
            all += n;
            Checks.due("end " + n, x.end(n), all);
        }
        Checks.same("all are blanks", Checks.outcome(x, ""), "read 0");
        x.feed(0x6162633A, 0, 0, 0, 0);
        Checks.due("the first three", x.end(3), 3);
        x.feed(0x64653A66, 0, 0, 0, 0);
        Checks.due("three behind them", x.end(3), 6);
        Checks.same("both are one text", Checks.outcome(x, ""), "read 1");
        Checks.same("which has them in order", Checks.told(x, 0), "abcde:");
    }

    static void promise3RefusedOutsideOfTwenty() {
        Checks.sentence("Promise 3", "NONE, refused, when n isn't 0 .. 20,");
        Counted x = new Counted();
        x.feed(0x61000000, 0, 0, 0, 0);
        for (int n : new int[] {-1, -2, -20, LEAST, 21, 22, 3000, MOST}) {
            Checks.due("end " + n, x.end(n), NONE);
        }
        Checks.due("the TEXT is as it was", x.end(1), 1);
        Checks.same("and what waited", Checks.outcome(x, ""), "read 1");
        Checks.due("0 is not refused", x.end(0), 0);
        Checks.due("20 is not refused", x.end(20), 20);
    }

    static void promise3RefusedBeyond3000() {
        Checks.sentence("Promise 3", "or there would be more than 3000.");
        Counted x = new Counted();
        fill(x, 2980);
        feedBlanks(x);
        Checks.due("20 that just fit", x.end(20), 3000);
        Checks.due("0 fit still", x.end(0), 3000);
        for (int n = 1; n <= 20; n++) {
            Checks.due("full: " + n, x.end(n), NONE);
        }
        Checks.same("full: read", Checks.outcome(x, ""), "read 0");
        Counted y = new Counted();
        fill(y, 2981);
        feedBlanks(y);
        Checks.due("20 are one too many", y.end(20), NONE);
        Checks.due("19 are not", y.end(19), 3000);
        Checks.same("read makes room", Checks.outcome(y, ""), "read 0");
        Checks.due("room for twenty", y.end(20), 20);
    }

    // Promise 4

    static void promise4TheTextIsEmptyThen() {
        Checks.sentence("Promise 4", "The TEXT, which is empty then in any case, is read: how many STATEMENTS.");
        Counted x = new Counted();
        Checks.same("an empty TEXT", Checks.outcome(x, ""), "read 0");
        Checks.same("one STATEMENT", Checks.outcome(x, "a"), "read 1");
        Checks.due("empty", x.end(0), 0);
        Checks.same("a fault", Checks.outcome(x, "a: $"), "fault 1 at 3");
        Checks.due("empty behind a fault, too", x.end(0), 0);
        Checks.same("the next is not behind it", Checks.outcome(x, "b:"), "read 1");
        Checks.due("its place is from 0 on", x.statement(0, 4), 0);
        Checks.same("400 STATEMENTS", Checks.outcome(x, Checks.many("1:", 400, "")), "read 400");
    }

    static void promise4NothingIsLeftInWhatIsReadNext() {
        Checks.sentence("Promise 4", "`int read() throws IllegalArgumentException`: The TEXT, which is empty then in any case, is read:");
        String rich = "w %lo(1)(a1), \"xyz\", %hi(1), 1";
        String plain = "a: 1: v 5, 6, a0, b";
        // Read more than once ahead, with and without a FAULT, as what is read may be kept in more than one place.
        for (String[] ahead : new String[][] {{rich}, {rich, rich}, {rich + " $"}, {rich, rich + " $"}, {rich, rich, rich + " $"}}) {
            Counted x = new Counted();
            for (String text : ahead) {
                Checks.outcome(x, text);
            }
            Checks.same("read", Checks.outcome(x, plain), "read 3");
            int[] operands = {0, 0, 4};
            for (int k = 0; k < 3; k++) {
                Checks.due("operands of STATEMENT " + k, x.statement(k, 3), operands[k]);
            }
            for (int j = 0; j < 4; j++) {
                Checks.due("register of operand " + j, x.operand(j, 1), j == 2 ? 10 : NONE);
                Checks.due("mark of operand " + j, x.operand(j, 2), 0);
                Checks.due("bytes of operand " + j, x.operand(j, 6), 0);
                Checks.due("a byte of operand " + j, x.string(j, 0), NONE);
            }
            int[] counts = {3, 4, 3, 3};
            for (int what = 0; what < 4; what++) {
                Checks.due("count " + what, x.count(what), counts[what]);
            }
            Checks.due("the first ITEM", x.item(0, 1), 5);
            Checks.same("the last name", Checks.nameOf(x, 2), "b");
        }
        Counted y = new Counted();
        String most = "w \"" + Checks.many("q", 1700, "") + "z\",last";
        Checks.same("many bytes, refused", Checks.outcome(y, most + " $"), "fault 1 at " + (most.length() + 1));
        Checks.same("as many again", Checks.outcome(y, most), "read 1");
        Checks.due("the last byte of the STRING", y.string(0, 1700), 'z');
        Checks.same("the name behind it", Checks.nameOf(y, 1), "last");
    }

    static void promise4AFaultThrows() {
        Checks.sentence("Promise 4", "IllegalArgumentException: a FAULT");
        String[] texts = {"$", "a2345678901234567", "w 0x", "w '", "w ,", "w 1+a0", "w " + Checks.many("-", 20, "") + "1",
            Checks.many("a:", 401, "")};
        for (int i = 0; i < texts.length; i++) {
            Counted x = new Counted();
            Checks.put(x, texts[i]);
            Class<?> thrown = null;
            try {
                x.read();
            } catch (RuntimeException e) {
                thrown = e.getClass();
            }
            Checks.same("fault " + (i + 1), thrown == IllegalArgumentException.class, true);
            Checks.due("its number", x.fault(0), i + 1);
        }
    }

    static void promise4WhatWasReadStays() {
        Checks.sentence("Promise 4", "(what was read before stays).");
        String want = allOf(Checks.reader(ALL_SORTS));
        for (String text : new String[] {"$", "q: r: s 9, t6, \"long\", z\n $", "w 1,", "w " + Checks.many("-", 20, "") + "1"}) {
            Counted x = Checks.reader(ALL_SORTS);
            Checks.same("refused", Checks.outcome(x, text).startsWith("fault"), true);
            Checks.same("all stays behind <" + text + ">", allOf(x), want);
        }
        Counted y = Checks.reader(ALL_SORTS);
        Checks.same("refused", Checks.outcome(y, Checks.many("b:", 401, "")), "fault 8 at 800");
        Checks.due("names of the refused", y.find('b', 0), 2);
        Checks.due("STATEMENTS of the refused", y.count(0), 4);
        Checks.same("refused again", Checks.outcome(y, ","), "fault 5 at 0");
        Checks.same("all stays behind two", allOf(y), want);
        Counted z = new Counted();
        Checks.same("refused at first", Checks.outcome(z, "a: b 1, $"), "fault 1 at 8");
        for (int what = 0; what < 4; what++) {
            Checks.due("nothing was read before", z.count(what), 0);
        }
        Counted u = Checks.reader(ALL_SORTS);
        Checks.same("not refused", Checks.outcome(u, "q"), "read 1");
        Checks.due("then its operands go", u.count(1), 0);
        Checks.due("and its names", u.count(3), 1);
        Checks.due("and its ITEMS", u.item(0, 1), 0);
        Checks.due("and its STRINGS", u.string(3, 0), NONE);
        Checks.same("an empty TEXT is not refused", Checks.outcome(y, ""), "read 0");
        Checks.due("so that nothing stays", y.count(0) + y.count(1) + y.count(2) + y.count(3), 0);
    }

    // Promise 5

    static void promise5TheNumber() {
        Checks.sentence("Promise 5", "Of the latest read(): the FAULT's number, 0 without one, or before (what 0),");
        Counted x = new Counted();
        Checks.due("before", x.fault(0), 0);
        Checks.put(x, "$");
        Checks.due("before its read()", x.fault(0), 0);
        Checks.same("a fault", Checks.outcome(x, ""), "fault 1 at 0");
        Checks.put(x, "w");
        Checks.due("of the latest still", x.fault(0), 1);
        Checks.same("another", Checks.outcome(x, " ,"), "fault 5 at 2");
        Checks.same("none", Checks.outcome(x, "w"), "read 1");
        Checks.due("without one", x.fault(0), 0);
    }

    static void promise5ThePlace() {
        Checks.sentence("Promise 5", "its PLACE, NONE without one (1).");
        Counted x = new Counted();
        Checks.due("before", x.fault(1), NONE);
        Checks.same("place 0", Checks.outcome(x, "$"), "fault 1 at 0");
        Checks.same("the TEXT's length", Checks.outcome(x, "w 1,"), "fault 5 at 4");
        Checks.same("place 2999", Checks.outcome(x, Checks.many("\n", 2999, "") + "$"), "fault 1 at 2999");
        Checks.same("none", Checks.outcome(x, ""), "read 0");
        Checks.due("without one", x.fault(1), NONE);
    }

    static void promise5AnotherWhat() {
        Checks.sentence("Promise 5", "NONE for another what.");
        Counted x = new Counted();
        Checks.outcome(x, "w $");
        for (int what : new int[] {-1, 2, 3, LEAST, MOST}) {
            Checks.due("fault " + what, x.fault(what), NONE);
        }
    }

    // Promise 6

    static void promise6HowMany() {
        Checks.sentence("Promise 6", "How many STATEMENTS (what 0), operands (1), ITEMS (2), names (3) there are;");
        Counted x = Checks.reader(ALL_SORTS);
        int[] want = {4, 5, 5, 4};
        for (int what = 0; what < 4; what++) {
            Checks.due("count " + what, x.count(what), want[what]);
        }
        Checks.same("an empty TEXT", Checks.outcome(x, ""), "read 0");
        for (int what = 0; what < 4; what++) {
            Checks.due("none: count " + what, x.count(what), 0);
        }
    }

    static void promise6AnotherWhat() {
        Checks.sentence("Promise 6", "NONE for another what.");
        Counted x = Checks.reader(ALL_SORTS);
        for (int what : new int[] {-1, 4, 5, LEAST, MOST}) {
            Checks.due("count " + what, x.count(what), NONE);
        }
    }

    // Promise 7

    private static void statementIs(Counted x, int what, int... want) {
        for (int k = 0; k < want.length; k++) {
            Checks.due("statement " + k + ", " + what, x.statement(k, what), want[k]);
        }
        Checks.due("statement behind the last", x.statement(want.length, what), NONE);
    }

    static void promise7Sort() {
        Checks.sentence("Promise 7", "its sort (what 0): 0 a label with a NAME, 1 one with a digit, 2 a word;");
        statementIs(Checks.reader("a: 0: w 1\n9: x5"), 0, 0, 1, 2, 1, 2);
    }

    static void promise7NameOrDigit() {
        Checks.sentence("Promise 7", "the name's number, or the digit (1);");
        statementIs(Checks.reader("a: 0: w a\n9: a:b"), 1, 0, 0, 1, 9, 0, 2);
    }

    static void promise7FirstOperand() {
        Checks.sentence("Promise 7", "its first operand (2; of labels, and words without operands, how many operands there are ahead);");
        statementIs(Checks.reader("a: 1: v\nw 1,2\nb: v\n2: w 3\nv\nc:"), 2, 0, 0, 0, 0, 2, 2, 2, 2, 3, 3);
    }

    static void promise7HowManyItHas() {
        Checks.sentence("Promise 7", "how many it has (3);");
        statementIs(Checks.reader("a: 1: v\nw 1,2\nb: w 3\n"), 3, 0, 0, 0, 2, 0, 1);
        Checks.due("800", Checks.reader("w " + Checks.many("1", 800, ",")).statement(0, 3), 800);
    }

    static void promise7Place() {
        Checks.sentence("Promise 7", "its place in the text (4);");
        statementIs(Checks.reader("a:\t1 :v\n  w 1,2 # c\n\nb:"), 4, 0, 3, 6, 10, 21);
        Checks.due("the last byte", Checks.reader(Checks.many(" ", 2999, "") + "w").statement(0, 4), 2999);
    }

    static void promise7Line() {
        Checks.sentence("Promise 7", "its line, from 0 on (5).");
        statementIs(Checks.reader("a: 1: v\n\n# c\nw 1\nb:"), 5, 0, 0, 0, 3, 4);
    }

    static void promise7NoneSuch() {
        Checks.sentence("Promise 7", "NONE when there is none such, or for another what.");
        Counted x = Checks.reader(ALL_SORTS);
        for (int k : new int[] {-1, 4, 5, 399, 400, LEAST, MOST, 1 << 30, -715827882}) {
            for (int what = -1; what <= 6; what++) {
                Checks.due("statement " + k + ", " + what, x.statement(k, what), NONE);
            }
        }
        for (int what : new int[] {-1, 6, 7, 24, LEAST, MOST}) {
            for (int k = 0; k < 4; k++) {
                Checks.due("statement " + k + ", " + what, x.statement(k, what), NONE);
            }
        }
        Counted full = Checks.reader(Checks.many("1:", 400, ""));
        Checks.due("the 400th", full.statement(399, 0), 1);
        Checks.due("behind the 400th", full.statement(400, 0), NONE);
        Checks.same("fewer", Checks.outcome(full, "a"), "read 1");
        Checks.due("what was there before", full.statement(1, 0), NONE);
    }

    // Promise 8

    private static void operandIs(int what, int... want) {
        Counted x = Checks.reader("w a0, 1+2, (sp), \"xyz\", %lo(b), \"\", %hi(c)(x31), x0, -4(zero)");
        for (int j = 0; j < want.length; j++) {
            Checks.due("operand " + j + ", " + what, x.operand(j, what), want[j]);
        }
        Checks.due("operand behind the last", x.operand(9, what), NONE);
    }

    static void promise8Sort() {
        Checks.sentence("Promise 8", "its sort (what 0): 0 an EXPRESSION (or a MARKED one), 1 a REGISTER, 2 a MEMORY, 3 a STRING;");
        operandIs(0, 1, 0, 2, 3, 0, 3, 2, 1, 2);
    }

    static void promise8Register() {
        Checks.sentence("Promise 8", "the REGISTER (1; of others NONE);");
        operandIs(1, 10, NONE, 2, NONE, NONE, NONE, 31, 0, 0);
    }

    static void promise8Mark() {
        Checks.sentence("Promise 8", "the mark (2; 0 without);");
        operandIs(2, 0, 0, 0, 0, 2, 0, 1, 0, 0);
    }

    static void promise8FirstItem() {
        Checks.sentence("Promise 8", "its first ITEM (3; of sorts 1 and 3 how many ITEMS there are ahead);");
        operandIs(3, 0, 0, 3, 4, 4, 5, 5, 6, 6);
    }

    static void promise8Items() {
        Checks.sentence("Promise 8", "how many ITEMS (4);");
        operandIs(4, 0, 3, 1, 0, 1, 0, 1, 0, 2);
        Checks.due("60", Checks.reader("w -" + Checks.many("1", 30, "+")).operand(0, 4), 60);
    }

    static void promise8Place() {
        Checks.sentence("Promise 8", "its place (5);");
        operandIs(5, 2, 6, 11, 17, 24, 32, 36, 49, 53);
        Checks.due("the last byte", Checks.reader("w" + Checks.many(" ", 2998, "") + "1").operand(0, 5), 2999);
    }

    static void promise8StringBytes() {
        Checks.sentence("Promise 8", "a STRING's bytes (6; 0 of others).");
        operandIs(6, 0, 0, 0, 3, 0, 0, 0, 0, 0);
        Checks.due("each with a \\ is one", Checks.reader("w \"\\n\\t\\0\\\\\\'\\\"\"").operand(0, 6), 6);
    }

    static void promise8NoneSuch() {
        Checks.sentence("Promise 8", "NONE when there is none such, or for another what.");
        Counted x = Checks.reader(ALL_SORTS);
        for (int j : new int[] {-1, 5, 799, 800, LEAST, MOST, 1 << 29}) {
            for (int what = -1; what <= 7; what++) {
                Checks.due("operand " + j + ", " + what, x.operand(j, what), NONE);
            }
        }
        for (int what : new int[] {-1, 7, 8, 9, LEAST, MOST}) {
            for (int j = 0; j < 5; j++) {
                Checks.due("operand " + j + ", " + what, x.operand(j, what), NONE);
            }
        }
        Counted full = Checks.reader("w " + Checks.many("a0", 800, ","));
        Checks.due("the 800th", full.operand(799, 1), 10);
        Checks.due("behind the 800th", full.operand(800, 1), NONE);
        Checks.same("fewer", Checks.outcome(full, "w 1"), "read 1");
        Checks.due("what was there before", full.operand(1, 0), NONE);
    }

    // Promise 9

    static void promise9TheConstant() {
        Checks.sentence("Promise 9", "The CONSTANT of operand j's EXPRESSION (a mark does not matter);");
        Counted x = Checks.reader("w 7, %hi(8), %pcrel_lo(2147483648)(sp), (sp), -1(sp), 4294967295, 0");
        long[] want = {7, 8, -2147483648L, 0, -1, -1, 0};
        for (int j = 0; j < want.length; j++) {
            Checks.due("constant " + j, x.constant(j), want[j]);
        }
        Checks.due("of 60 ITEMS", Checks.reader("w -" + Checks.many("1", 30, "+")).constant(0), 28);
        String right = "w " + Checks.many("1-(", 19, "") + "1-2" + Checks.many(")", 19, "");
        Checks.due("of one that leans to the right", Checks.reader(right).constant(0), 2);
    }

    static void promise9Nothing() {
        Checks.sentence("Promise 9", "NOTHING when there is none.");
        Checks.due("NOTHING", UnitText.NOTHING, 1099511627776L);
        Counted x = Checks.reader("w a0, \"7\", \"\", b, ., 1b, 1/0, 1%0, %hi(b)(sp), 1+b, 7");
        for (int j = 0; j < 10; j++) {
            Checks.due("constant " + j, x.constant(j), UnitText.NOTHING);
        }
        Checks.due("constant 10", x.constant(10), 7);
        for (int j : new int[] {-1, 11, 799, 800, LEAST, MOST, 1 << 29}) {
            Checks.due("constant " + j, x.constant(j), UnitText.NOTHING);
        }
        Counted y = Checks.reader("w 7");
        Checks.due("ahead of the only one", y.constant(-1), UnitText.NOTHING);
        Checks.due("behind the only one", y.constant(1), UnitText.NOTHING);
    }

    // Promise 10

    static void promise10Item() {
        Checks.sentence("Promise 10", "Of ITEM t its sort (what 0), its value (1);");
        Counted x = Checks.reader("w 5+b, a0, -9f, .\nv 4294967295");
        int[][] want = {{0, 5}, {1, 1}, {12, 0}, {2, 19}, {10, 0}, {3, 0}, {0, -1}};
        for (int t = 0; t < want.length; t++) {
            Checks.due("item " + t + ", 0", x.item(t, 0), want[t][0]);
            Checks.due("item " + t + ", 1", x.item(t, 1), want[t][1]);
        }
    }

    static void promise10NoneSuch() {
        Checks.sentence("Promise 10", "0 when there is none such, or for another what.");
        Counted x = Checks.reader("w b-7, 9|8");
        for (int t : new int[] {-1, 6, 1999, 2000, LEAST, MOST, 1 << 30}) {
            for (int what = -1; what <= 2; what++) {
                Checks.due("item " + t + ", " + what, x.item(t, what), 0);
            }
        }
        for (int what : new int[] {-1, 2, 3, LEAST, MOST}) {
            for (int t = 0; t < 6; t++) {
                Checks.due("item " + t + ", " + what, x.item(t, what), 0);
            }
        }
        Checks.same("fewer", Checks.outcome(x, "w 1"), "read 1");
        Checks.due("what was there before", x.item(1, 1) + x.item(2, 0), 0);
    }

    // Promise 11

    static void promise11ByteOfAName() {
        Checks.sentence("Promise 11", "Byte i of name k;");
        Counted x = Checks.reader("a: a234567890123456 Zz_.$, w");
        Checks.same("name 0", Checks.nameOf(x, 0), "a");
        Checks.same("name 1", Checks.nameOf(x, 1), "a234567890123456");
        Checks.same("name 2", Checks.nameOf(x, 2), "Zz_.$");
        Checks.same("name 3", Checks.nameOf(x, 3), "w");
    }

    static void promise11None() {
        Checks.sentence("Promise 11", "NONE when there is none.");
        Counted x = Checks.reader("a: a234567890123456 b");
        for (int k : new int[] {-1, 3, 149, 150, LEAST, MOST, 1 << 30}) {
            for (int i : new int[] {-1, 0, 1}) {
                Checks.due("name " + k + ", " + i, x.name(k, i), NONE);
            }
        }
        int[] lengths = {1, 16, 1};
        for (int k = 0; k < 3; k++) {
            for (int i : new int[] {-1, lengths[k], lengths[k] + 1, 3000, LEAST, MOST}) {
                Checks.due("name " + k + ", " + i, x.name(k, i), NONE);
            }
        }
        Checks.same("fewer", Checks.outcome(x, "1:"), "read 1");
        Checks.due("what was there before", x.name(0, 0), NONE);
    }

    // Promise 12

    static void promise12ByteOfAString() {
        Checks.sentence("Promise 12", "Byte i of the STRING that operand j is;");
        Counted x = Checks.reader("w \"ab\", 1, \"\\n\\t\\0\\\\\\'\\\"~ \"\nv \"z\"");
        Checks.same("string 0", Checks.stringOf(x, 0), "ab");
        Checks.same("string 2", Checks.stringOf(x, 2), "\n\t\0\\'\"~ ");
        Checks.same("string 3", Checks.stringOf(x, 3), "z");
    }

    static void promise12None() {
        Checks.sentence("Promise 12", "NONE when there is none.");
        Counted x = Checks.reader("w \"ab\", \"\", a0, 1, 1(sp), %hi(b), \"c\"");
        for (int j : new int[] {1, 2, 3, 4, 5, -1, 7, 799, 800, LEAST, MOST, 1 << 29}) {
            for (int i : new int[] {-1, 0, 1}) {
                Checks.due("string " + j + ", " + i, x.string(j, i), NONE);
            }
        }
        for (int i : new int[] {-1, 2, 3, 3000, LEAST, MOST}) {
            Checks.due("string 0, " + i, x.string(0, i), NONE);
        }
        Checks.due("the last byte", x.string(6, 0), 'c');
        Checks.due("behind the last byte", x.string(6, 1), NONE);
    }

    // Promise 13

    static void promise13TheNumberOfAName() {
        Checks.sentence("Promise 13", "The number of a name: its characters are the bytes of first and then of second, the highest first,");
        Counted x = Checks.reader("b: abcdefgh: abcdefghi: abcdefghijklmnop: ab: ba:");
        Checks.due("b", x.find('b', 0), 0);
        Checks.due("eight", x.find(0x6162636465666768L, 0), 1);
        Checks.due("eight in the second", x.find(0, 0x6162636465666768L), 1);
        Checks.due("nine", x.find(0x6162636465666768L, 'i'), 2);
        Checks.due("sixteen", x.find(0x6162636465666768L, 0x696A6B6C6D6E6F70L), 3);
        Checks.due("ab", x.find('a', 'b'), 4);
        Checks.due("ba", x.find('b', 'a'), 5);
    }

    static void promise13ZerosLeftOut() {
        Checks.sentence("Promise 13", "zeros left out;");
        Counted x = Checks.reader("abc:");
        long[][] same = {{0x616263, 0}, {0x6162630000000000L, 0}, {0x0061006200630000L, 0}, {0, 0x616263}, {0, 0x6162630000000000L},
            {0x61, 0x6263}, {0x6100000000000000L, 0x62000000000063L}, {0x6100000000000062L, 0x63L << 56}};
        for (long[] pair : same) {
            Checks.due("abc as " + Long.toHexString(pair[0]) + ", " + Long.toHexString(pair[1]), x.find(pair[0], pair[1]), 0);
        }
    }

    static void promise13None() {
        Checks.sentence("Promise 13", "NONE if none that was read has it.");
        Counted x = Checks.reader("abc: w a0, hi, %lo(1), .");
        long[] none = {0, 'a', 0x6162, 0x61626364, 0x626364, 0x6263, 0x414243, 0x6130, 0x6C6F, '.', 0x636261, 0xFF616263L, -1, Long.MIN_VALUE};
        for (long first : none) {
            Checks.due("find " + Long.toHexString(first), x.find(first, 0), NONE);
            Checks.due("find behind " + Long.toHexString(first), x.find(0, first), NONE);
        }
        Checks.due("all bytes of 255", x.find(-1, -1), NONE);
        Checks.due("hi, which is a name", x.find(0x6869, 0), 2);
        Checks.same("a refused read()", Checks.outcome(x, "new: $"), "fault 1 at 5");
        Checks.due("its name", x.find(0x6E6577, 0), NONE);
        Checks.due("the name of what was read", x.find(0x616263, 0), 0);
        Checks.same("another read()", Checks.outcome(x, "new:"), "read 1");
        Checks.due("its name now", x.find(0x6E6577, 0), 0);
        Checks.due("the name of what was read before", x.find(0x616263, 0), NONE);
    }

    // Promise 14

    static void promise14OutBecomes() {
        Checks.sentence("Promise 14", "OUT becomes STATEMENT k as a TEXT: how many bytes.");
        Counted x = Checks.reader(ALL_SORTS);
        String[] want = {"a:", "7:", "w x10, 1 + 2, 4(x2), \"xyz\", %lo(b)", "v"};
        for (int k = 0; k < want.length; k++) {
            Checks.due("tell " + k, x.tell(k), want[k].length());
            Checks.same("OUT " + k, Checks.told(x, k), want[k]);
        }
        // More bytes than a TEXT can have: each sign gets two blanks, each , one, and each REGISTER a digit.
        String longest = "w " + Checks.many(Checks.many("1", 30, "+"), 33, ",") + "," + Checks.many("a7", 339, ",");
        Checks.due("a long one's bytes", longest.length(), 2 + 33 * 60 + 339 * 3 - 1);
        Counted y = Checks.reader(longest);
        Checks.due("a long one", y.tell(0), 2 + 33 * (30 + 29 * 3 + 2) + 339 * 5 - 2);
        Checks.due("its last byte", y.letter(y.tell(0) - 1), '7');
    }

    static void promise14NoneSuch() {
        Checks.sentence("Promise 14", "NONE, and OUT stays, when there is none such.");
        Counted x = Checks.reader("a: bc");
        Checks.due("before any", x.tell(2), NONE);
        Checks.due("OUT is empty still", x.letter(0), NONE);
        Checks.due("tell", x.tell(1), 2);
        for (int k : new int[] {-1, 2, 3, 399, 400, LEAST, MOST, 1 << 30, -715827882}) {
            Checks.due("tell " + k, x.tell(k), NONE);
            Checks.due("OUT 0 stays", x.letter(0), 'b');
            Checks.due("OUT 1 stays", x.letter(1), 'c');
            Checks.due("OUT has no more", x.letter(2), NONE);
        }
        Checks.same("another read()", Checks.outcome(x, ""), "read 0");
        Checks.due("none to tell", x.tell(0), NONE);
        Checks.due("OUT stays behind read(), too", x.letter(1), 'c');
    }

    // Promise 15

    static void promise15ByteOfOut() {
        Checks.sentence("Promise 15", "Byte i of OUT;");
        Counted x = Checks.reader("ab 1\nc:");
        x.tell(0);
        String want = "ab 1";
        for (int i = 0; i < want.length(); i++) {
            Checks.due("letter " + i, x.letter(i), want.charAt(i));
        }
        x.tell(1);
        Checks.due("of a shorter one", x.letter(0), 'c');
        Checks.same("a refused read()", Checks.outcome(x, "$"), "fault 1 at 0");
        Checks.due("OUT behind it", x.letter(1), ':');
    }

    static void promise15None() {
        Checks.sentence("Promise 15", "NONE when there is none.");
        Counted x = Checks.reader("ab 1\nc:");
        Checks.due("before any tell()", x.letter(0), NONE);
        x.tell(0);
        for (int i : new int[] {-1, 4, 5, 3000, 5999, 6000, 6001, LEAST, MOST}) {
            Checks.due("letter " + i, x.letter(i), NONE);
        }
        x.tell(1);
        for (int i : new int[] {2, 3, 4}) {
            Checks.due("behind a shorter one: " + i, x.letter(i), NONE);
        }
    }

    // What stands behind the promises

    static void askingChangesNothing() {
        Checks.sentence("Not promised", "Nothing is promised beyond the answers and state changes described above,");
        Counted x = Checks.reader(ALL_SORTS);
        Checks.same("a FAULT", Checks.outcome(x, "w ,"), "fault 5 at 2");
        Checks.put(x, "q 1\n");
        x.feed(0x76203261, 0, 0, 0, 0);
        x.tell(2);
        String want = allOf(x);
        int out = x.tell(3);
        for (int i = -1; i < 3; i++) {
            x.fault(i);
            x.count(i);
            x.statement(i, i);
            x.operand(i, i);
            x.constant(i);
            x.item(i, i);
            x.name(i, i);
            x.string(i, i);
            x.find(i, 'w');
            x.letter(i);
            x.tell(-1);
            x.end(-1);
        }
        Checks.due("OUT's bytes", out, 1);
        Checks.due("OUT", x.letter(0), 'v');
        Checks.due("OUT has no more", x.letter(1), NONE);
        Checks.due("the FAULT", x.fault(0), 5);
        Checks.due("its place", x.fault(1), 2);
        Checks.same("what was read", allOf(x), want);
        Checks.due("the TEXT and what waits behind it", x.end(3), 7);
        Checks.same("both are read", Checks.outcome(x, ""), "read 2");
        Checks.same("the TEXT", Checks.told(x, 0), "q 1");
        Checks.same("what waited", Checks.told(x, 1), "v 2");
    }
}
