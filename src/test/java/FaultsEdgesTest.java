/** The boundaries that the term FAULTS names, a test for each of its sentences. */
public final class FaultsEdgesTest {
    private static final String WHERE = "FAULTS";
    /** Nineteen that are open: what comes behind one more ( is 21 deep. */
    private static final String OPEN = Checks.many("(", 19, "");
    /** An EXPRESSION of 59 ITEMS. */
    private static final String NEARLY_SIXTY = Checks.many("1", 30, "+");
    /** A word whose operands have 1999 ITEMS. */
    private static final String NEARLY_2000 = "w " + Checks.many("-" + NEARLY_SIXTY, 33, ",") + "," + Checks.many("1", 10, "+");
    private static final String FULL_STATEMENTS = Checks.many("a:", 400, "");
    private static final String FULL_OPERANDS = "w " + Checks.many("1", 800, ",");
    /** 150 names, each a label. */
    private static final String FULL_NAMES = names(150, ":") + ":";

    public static void main(String[] args) throws Exception {
        Checks.runSentences(FaultsEdgesTest.class);
        Checks.finish();
    }

    private static String names(int count, String between) {
        StringBuilder b = new StringBuilder();
        for (int i = 0; i < count; i++) {
            b.append(i == 0 ? "" : between).append((char) ('A' + i % 26)).append(i / 26);
        }
        return b.toString();
    }

    private static void faultIs(String text, int number, int place) {
        Checks.faultIs(text, number, place);
    }

    private static void isRead(String text, int statements) {
        Checks.isRead(text, statements);
    }

    static void theFirstFromTheLeft() {
        Checks.sentence(WHERE, "the first from the left, with a PLACE (a byte, from 0 on),");
        faultIs("$", 1, 0);
        faultIs("$ a2345678901234567 0x '", 1, 0);
        faultIs("a2345678901234567 $", 2, 0);
        faultIs("w 0x, $, '", 3, 2);
        faultIs("w ', $, 0x", 4, 2);
        faultIs("w , $", 5, 2);
        faultIs("w 1+a0, $", 6, 4);
        faultIs("w " + OPEN + "(1 $", 7, 22);
        faultIs(FULL_STATEMENTS + "a: $", 8, 800);
        faultIs("w 1\n\nv ,\nu $", 5, 7);
        faultIs(Checks.many("\n", 2999, "") + "$", 1, 2999);
    }

    static void foundWhenTheWordIsRead() {
        Checks.sentence(WHERE, "each found when the word at which it stands is read;");
        // What is wrong with a word further right is not found ahead of what can't stand further left.
        faultIs("1 0x", 3, 2);
        faultIs("w 1 2 0x", 5, 4);
        faultIs("a0: 0x", 5, 2);
        faultIs("w (a0 , 0x", 5, 6);
        faultIs("w 1+,4294967296", 5, 4);
        faultIs("w %up 0x", 6, 3);
        faultIs("w %hi 0x", 3, 6);
        faultIs("w (0x", 3, 3);
        faultIs("w 0x", 3, 2);
        faultIs("a 'b", 4, 2);
    }

    static void theLeastOfSeveral() {
        Checks.sentence(WHERE, "of several at one place the least number:");
        String last = "w " + OPEN + "(";
        // A word that has a fault of its own and can't stand there: 1 to 4 ahead of 5.
        faultIs("w 1 $", 1, 4);
        faultIs("w 1 a2345678901234567", 2, 4);
        faultIs("w 1 4294967296", 3, 4);
        faultIs("w 1 'ab'", 4, 4);
        // 21 deep with what is wrong anyway: 1 to 6 ahead of 7.
        faultIs(last + "$", 1, 22);
        faultIs(last + "a2345678901234567", 2, 22);
        faultIs(last + "0x", 3, 22);
        faultIs(last + "\"", 4, 22);
        faultIs(last + "\"\"", 5, 22);
        faultIs(last + ")", 5, 22);
        faultIs(last + ",", 5, 22);
        faultIs(last, 5, 22);
        faultIs(last + "\n", 5, 22);
        faultIs(last + "a0", 6, 22);
        // One too many that is wrong anyway: 1 to 7 ahead of 8.
        faultIs(FULL_STATEMENTS + "$", 1, 800);
        faultIs(FULL_STATEMENTS + "a2345678901234567", 2, 800);
        faultIs(FULL_STATEMENTS + "0x", 3, 800);
        faultIs(FULL_STATEMENTS + "'", 4, 800);
        faultIs(FULL_STATEMENTS + ".", 5, 800);
        faultIs(FULL_STATEMENTS + "10:", 5, 800);
        faultIs(FULL_OPERANDS + ",$", 1, 1602);
        faultIs(FULL_OPERANDS + ",a2345678901234567", 2, 1602);
        faultIs(FULL_OPERANDS + ",0x", 3, 1602);
        faultIs(FULL_OPERANDS + ",\"", 4, 1602);
        faultIs(FULL_OPERANDS + ",", 5, 1602);
        faultIs(FULL_OPERANDS + ",)", 5, 1602);
        faultIs("w " + NEARLY_SIXTY + "+$", 1, 62);
        faultIs("w " + NEARLY_SIXTY + "+0x", 3, 62);
        faultIs("w " + NEARLY_SIXTY + "+)", 5, 62);
        faultIs("w " + NEARLY_SIXTY + "+a0", 6, 62);
        faultIs("w " + NEARLY_SIXTY + "+" + OPEN + "(1", 7, 82);
        faultIs(FULL_NAMES + "A0 " + OPEN + "(new", 7, FULL_NAMES.length() + 23);
    }

    static void bytesThatBeginNoWord() {
        Checks.sentence(WHERE, "1 a byte with which no word can begin,");
        String begin = "abcdefghijklmnopqrstuvwxyzABCDEFGHIJKLMNOPQRSTUVWXYZ_.0123456789'\",():+-*/%&|^~";
        for (int b = 0; b < 256; b++) {
            String text = "w 1 " + (char) b;
            boolean none = begin.indexOf((char) b) < 0 && b != ' ' && b != '\t' && b != '\n' && b != '#';
            Checks.same("byte " + b, Checks.outcome(text).equals("fault 1 at 4"), none);
        }
    }

    static void bytesOfComments() {
        Checks.sentence(WHERE, "or in a COMMENT one that isn't 32 .. 126 or 9.");
        for (int b = 0; b < 256; b++) {
            boolean fits = b >= 32 && b <= 126 || b == 9 || b == 10;
            Checks.same("byte " + b, Checks.outcome("# c" + (char) b), fits ? "read 0" : "fault 1 at 3");
            Checks.same("byte " + b + " at once", Checks.outcome("w#" + (char) b), fits ? "read 1" : "fault 1 at 2");
        }
        faultIs("w 1, # \u001f\n2", 1, 7);
        faultIs("w 1, #  \n2", 5, 8);
    }

    static void namesOfMoreThanSixteenBytes() {
        Checks.sentence(WHERE, "2 a NAME of more than 16 bytes.");
        isRead("a234567890123456", 1);
        faultIs("a2345678901234567", 2, 0);
        isRead("a234567890123456:a234567890123456 a234567890123456", 2);
        faultIs(" \n a2345678901234567:", 2, 3);
        faultIs("w 1+a2345678901234567", 2, 4);
        faultIs("w %a2345678901234567", 2, 3);
        faultIs("w ................$", 2, 2);
        isRead("w ...............$", 1);
    }

    static void numbersTooLargeOrWithoutDigits() {
        Checks.sentence(WHERE, "3 a NUMBER that is not below 2^32, or 0x without a digit.");
        isRead("w 4294967295", 1);
        faultIs("w 4294967296", 3, 2);
        isRead("w 0xffffffff", 1);
        faultIs("w 0x100000000", 3, 2);
        isRead("w 0b" + Checks.many("1", 32, ""), 1);
        faultIs("w 0b1" + Checks.many("0", 32, ""), 3, 2);
        faultIs("w 0x", 3, 2);
        faultIs("w 0x ", 3, 2);
        faultIs("w 0xg", 3, 2);
        faultIs("w 0x,1", 3, 2);
        faultIs("w 0x\n", 3, 2);
        faultIs("0x:", 3, 0);
        faultIs("4294967296:", 3, 0);
    }

    static void charactersAndStringsThatDoNotEnd() {
        Checks.sentence(WHERE,
            "4 a CHARACTER or STRING that does not end as it should, or has something that can't be in it (2 to 4 at the word's beginning).");
        for (String bad : new String[] {"'", "'a", "''", "'''", "'ab'", "'a\n'", "'\n'", "'\t'", "'\\", "'\\n", "'\\'", "'\\a'", "'\u007f'"}) {
            faultIs("w  " + bad, 4, 3);
        }
        for (String bad : new String[] {"\"", "\"a", "\"a\n\"", "\"\t\"", "\"\\", "\"\\\"", "\"\\a\"", "\"aaa\\", "\"aaa\u0080\""}) {
            faultIs("w  " + bad, 4, 3);
        }
        isRead("w \"\"", 1);
        isRead("w '\"', \"'\"", 1);
    }

    static void wordsThatCannotStandThere() {
        Checks.sentence(WHERE, "5 a word that can't stand there,");
        faultIs(":", 5, 0);
        faultIs("a b c", 5, 4);
        faultIs("a0:", 5, 2);
        faultIs("1 2", 5, 2);
        faultIs("w a0 + 1", 5, 5);
        faultIs("w 1 (2)", 5, 5);
        faultIs("w 1 + )", 5, 6);
        faultIs("w 1 a0", 5, 4);
        faultIs("w (1 a0)", 5, 5);
        faultIs("w %1", 5, 3);
        faultIs("w %\"hi\"", 5, 3);
        faultIs("w %(hi)", 5, 3);
    }

    static void theLinesEndWhereMoreMustCome() {
        Checks.sentence(WHERE, "or the line's end where more must come (the byte 10, or the TEXT's length).");
        String[] unfinished = {"1", "w 1,", "w -", "w 1+", "w (", "w (1", "w (a0", "w 1(", "w 1(a0", "w %", "w %hi", "w %hi(", "w %hi(1"};
        for (String text : unfinished) {
            faultIs(text, 5, text.length());
            faultIs(text + "\n)", 5, text.length());
            faultIs(text + "  ", 5, text.length() + 2);
            faultIs(text + " \n2", 5, text.length() + 1);
            faultIs(text + "# c", 5, text.length() + 3);
            faultIs(text + "# c\n2", 5, text.length() + 3);
        }
        faultIs("w" + Checks.many(" ", 2998, "") + "~", 5, 3000);
    }

    static void registersInExpressions() {
        Checks.sentence(WHERE, "6 a REGISTER that stands in an EXPRESSION,");
        faultIs("w 1+a0", 6, 4);
        faultIs("w -zero", 6, 3);
        faultIs("w ~x31", 6, 3);
        faultIs("w ((sp))", 6, 4);
        faultIs("w 1+(sp)", 6, 5);
        faultIs("w -(fp)", 6, 4);
        faultIs("w %hi(ra)", 6, 6);
        isRead("w 1+x32,-s12,((t7)),%hi(a8)", 1);
    }

    static void marksThatAreNone() {
        Checks.sentence(WHERE, "or a mark that is none (at the NAME, HERE, too).");
        faultIs("w %up(1)", 6, 3);
        faultIs("w % up(1)", 6, 4);
        faultIs("w %.(1)", 6, 3);
        faultIs("w %a0(1)", 6, 3);
        faultIs("w %h", 6, 3);
        faultIs("w %hi_(1)", 6, 3);
        faultIs("w %HI(1)", 6, 3);
        faultIs("w %w(1)", 6, 3);
    }

    static void twentyOneDeep() {
        Checks.sentence(WHERE, "7 what would be 21 deep (at its first word).");
        isRead("w " + OPEN + "1" + Checks.many(")", 19, ""), 1);
        faultIs("w " + OPEN + "(1", 7, 22);
        faultIs("w " + OPEN + "( b", 7, 23);
        faultIs("w " + OPEN + "(.", 7, 22);
        faultIs("w " + OPEN + "(1b", 7, 22);
        faultIs("w " + OPEN + "('a'", 7, 22);
        faultIs("w " + OPEN + "((", 7, 22);
        faultIs("w " + OPEN + "(-", 7, 22);
        faultIs("w " + OPEN + "-  1", 7, 24);
        faultIs("w " + OPEN + "~~", 7, 22);
        faultIs("w " + Checks.many("-", 20, "") + "1", 7, 22);
        faultIs("w " + Checks.many("~ ", 20, "") + "1", 7, 42);
    }

    static void statementNumber401() {
        Checks.sentence(WHERE, "8 the 401st STATEMENT,");
        isRead(FULL_STATEMENTS, 400);
        isRead(Checks.many("a:", 399, "") + "w", 400);
        isRead(Checks.many("w\n", 400, ""), 400);
        isRead(FULL_STATEMENTS + "\n \n# no more", 400);
        faultIs(FULL_STATEMENTS + "a:", 8, 800);
        faultIs(FULL_STATEMENTS + "a", 8, 800);
        faultIs(FULL_STATEMENTS + "x1", 8, 800);
        faultIs(FULL_STATEMENTS + "1:", 8, 800);
        faultIs(FULL_STATEMENTS + "\n\n a:", 8, 803);
        faultIs(Checks.many("w\n", 400, "") + "w", 8, 800);
        Checks.due("the 400th", Checks.reader(FULL_STATEMENTS).statement(399, 4), 798);
    }

    static void operandNumber801() {
        Checks.sentence(WHERE, "801st operand,");
        isRead(FULL_OPERANDS, 1);
        isRead(FULL_OPERANDS + "\nv", 2);
        isRead("w " + Checks.many("a0", 800, ","), 1);
        for (String next : new String[] {"1", "a", "a0", ".", "1b", "'a'", "\"\"", "(1)", "(a0)", "-1", "~1", "%hi(1)"}) {
            faultIs(FULL_OPERANDS + "," + next, 8, 1602);
            faultIs(FULL_OPERANDS + "\nv " + next, 8, 1604);
        }
        Checks.due("the 800th", Checks.reader(FULL_OPERANDS).operand(799, 5), 1600);
    }

    static void itemNumber2001() {
        Checks.sentence(WHERE, "2001st ITEM,");
        int end = NEARLY_2000.length();
        Counted x = Checks.reader(NEARLY_2000 + ",7");
        Checks.due("the 2000th", x.item(1999, 1), 7);
        Checks.due("none behind it", x.item(2000, 0), 0);
        Checks.due("2000 of them", x.count(2), 2000);
        faultIs(NEARLY_2000 + ",7,8", 8, end + 3);
        faultIs(NEARLY_2000 + ",7\nv b", 8, end + 5);
        faultIs(NEARLY_2000 + ",7,.", 8, end + 3);
        faultIs(NEARLY_2000 + ",7,1b", 8, end + 3);
        faultIs(NEARLY_2000 + ",7,-1", 8, end + 3);
        faultIs(NEARLY_2000 + ",7,%lo(1)", 8, end + 7);
        isRead(NEARLY_2000 + ",7,a0,\"s\"\na:1:v a1", 4);
    }

    static void itemNumber61OfOne() {
        Checks.sentence(WHERE, "61st ITEM of one EXPRESSION,");
        Checks.due("60 of them", Checks.reader("w -" + NEARLY_SIXTY).operand(0, 4), 60);
        isRead("w -" + NEARLY_SIXTY + "(sp),%hi(-" + NEARLY_SIXTY + ")", 1);
        faultIs("w --" + NEARLY_SIXTY, 8, 62);
        faultIs("w -" + NEARLY_SIXTY + "+1", 8, 62);
        faultIs("w " + NEARLY_SIXTY + "+1", 8, 62);
        faultIs("w " + NEARLY_SIXTY + "+b", 8, 62);
        faultIs("w " + NEARLY_SIXTY + "+-1", 8, 62);
        faultIs("w 1,%hi(" + NEARLY_SIXTY + "+1", 8, 68);
        Counted x = Checks.reader("w -" + NEARLY_SIXTY + ",-" + NEARLY_SIXTY);
        Checks.due("each has its own 60", x.count(2), 120);
        Checks.due("their CONSTANT", x.constant(1), 28);
    }

    static void nameNumber151() {
        Checks.sentence(WHERE, "151st name,");
        int end = FULL_NAMES.length();
        isRead(FULL_NAMES, 150);
        Checks.due("150 of them", Checks.reader(FULL_NAMES).count(3), 150);
        faultIs(FULL_NAMES + "new:", 8, end);
        faultIs(FULL_NAMES + "new", 8, end);
        faultIs(FULL_NAMES + "a0", 8, end);
        faultIs(FULL_NAMES + "A0 new", 8, end + 3);
        faultIs(FULL_NAMES + "A0 1+new", 8, end + 5);
        faultIs(FULL_NAMES + "A0 %lo(new)", 8, end + 7);
        isRead(FULL_NAMES + FULL_NAMES + "A0 B0+C0,a0,(sp),%hi(D0),.,1b,\"s\"", 301);
    }

    static void aheadOfWhatIsBehind() {
        Checks.sentence(WHERE, "at the word that begins or makes it, ahead of what is behind that");
        faultIs(FULL_STATEMENTS + "a $", 8, 800);
        faultIs(FULL_STATEMENTS + "1 2", 8, 800);
        faultIs(FULL_STATEMENTS + "a ,", 8, 800);
        faultIs(FULL_STATEMENTS + "1$", 8, 800);
        faultIs(FULL_OPERANDS + ",1$", 8, 1602);
        faultIs(FULL_OPERANDS + ",%up", 8, 1602);
        faultIs(FULL_OPERANDS + ",(a0 $", 8, 1602);
        faultIs(FULL_OPERANDS + ",(((0x", 8, 1602);
        faultIs(FULL_OPERANDS + ",-a0", 8, 1602);
        faultIs(NEARLY_2000 + ",7,8$", 8, NEARLY_2000.length() + 3);
        faultIs("w -" + NEARLY_SIXTY + "+$", 8, 62);
        faultIs(FULL_NAMES + "new $", 8, FULL_NAMES.length());
        // The ( ) and marks ahead of an ITEM make none: what is wrong with them stands further left.
        faultIs(NEARLY_2000 + ",7,((8", 8, NEARLY_2000.length() + 5);
        faultIs(NEARLY_2000 + ",7,($", 1, NEARLY_2000.length() + 4);
        faultIs(NEARLY_2000 + ",7,%up", 6, NEARLY_2000.length() + 4);
    }

    static void operatorsAreCountedAtTheirSigns() {
        Checks.sentence(WHERE, "(an operator: its sign, where it is counted, too;");
        int end = NEARLY_2000.length();
        faultIs(NEARLY_2000 + ",7+8", 8, end + 2);
        faultIs(NEARLY_2000 + ",7+$", 8, end + 2);
        faultIs(NEARLY_2000 + ",7*", 8, end + 2);
        faultIs(NEARLY_2000 + ",-8", 8, end + 2);
        faultIs(NEARLY_2000 + ",-$", 1, end + 2);
        faultIs(NEARLY_2000 + "+8", 8, end + 1);
        faultIs(NEARLY_2000 + "+$", 1, end + 1);
        faultIs("w -" + NEARLY_SIXTY + "<<1", 8, 62);
        faultIs("w -" + NEARLY_SIXTY + "|", 8, 62);
        faultIs("w " + NEARLY_SIXTY + "+(1", 8, 63);
        faultIs("w " + NEARLY_SIXTY + "+~$", 8, 62);
        // An operator whose ITEM comes late is counted as early as its sign.
        faultIs("w " + Checks.many("1+2*", 15, "") + "1", 8, 62);
        faultIs("w " + Checks.many("1|2^3&4<<5+6*", 5, "") + "1", 8, 2 + 5 * 13);
    }

    static void theParenthesisOfAMemoryWithoutExpression() {
        Checks.sentence(WHERE, "of a MEMORY without EXPRESSION the number 0: the parenthesis).");
        int end = NEARLY_2000.length();
        isRead(NEARLY_2000 + ",(a0)", 1);
        faultIs(NEARLY_2000 + ",7,(a0)", 8, end + 3);
        faultIs(NEARLY_2000 + ",7,( a0", 8, end + 3);
        faultIs(NEARLY_2000 + ",7\nv (a0 $", 8, end + 5);
        faultIs(NEARLY_2000 + ",(a0),(a1)", 8, end + 6);
        isRead(NEARLY_2000 + ",7(a0)", 1);
    }
}
