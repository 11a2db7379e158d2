/** The FAULTS: their numbers and places, which of several comes first, and the limits. */
public final class FaultsTest {
    private static void faultIs(String text, int number, int place) {
        Checks.faultIs(text, number, place);
    }

    private static void isRead(String text, int statements) {
        Checks.isRead(text, statements);
    }

    public static void main(String[] args) {
        bytes();
        names();
        numbers();
        locals();
        quoted();
        lines();
        operands();
        memories();
        expressions();
        marks();
        depths();
        limits();
        Checks.finish();
    }

    private static void bytes() {
        for (char c : "$!;=?@[]{}`<>\\\u0000\u0001\u000b\r\u007f\u0080\u00e9\u00ff".toCharArray()) {
            faultIs(" " + c, 1, 1);
            faultIs("w 1 " + c, 1, 4);
            faultIs("w 1+" + c, 1, 4);
        }
        faultIs("w 1<2", 1, 3);
        faultIs("w 1<<<2", 1, 5);
        faultIs("w 1> >2", 1, 3);
        faultIs("w 1>>>2", 1, 5);
        faultIs("# a\u0001", 1, 3);
        faultIs("# a\rb", 1, 3);
        faultIs("# \u007f", 1, 2);
        faultIs("w 1 + # \u00e9", 1, 8);
        isRead("# all from ! to ~ and \t $\\'\"\n#", 0);
        isRead("#\n#\n\n \t\n", 0);
        faultIs("w \"#\" # \u0002", 1, 8);
    }

    private static void names() {
        isRead("abcdefghijklmnop", 1);
        faultIs("abcdefghijklmnopq", 2, 0);
        faultIs("w  ......_________$$", 2, 3);
        faultIs("w %abcdefghijklmnopq", 2, 3);
        faultIs("w 1 abcdefghijklmnopq", 2, 4);
        faultIs("w (abcdefghijklmnopq", 2, 3);
        isRead(".. ._a$", 1);
    }

    private static void numbers() {
        isRead("w 4294967295, 0xffffffff, 0b11111111111111111111111111111111", 1);
        isRead("w 00000000000000004294967295, 0x0000000000000000F, 0b" + Checks.many("0", 99, "") + "1", 1);
        faultIs("w 4294967296", 3, 2);
        faultIs("w 0x100000000", 3, 2);
        faultIs("w 0b100000000000000000000000000000000", 3, 2);
        faultIs("w " + Checks.many("9", 2900, ""), 3, 2);
        faultIs("w 1, 0x", 3, 5);
        faultIs("w 0xg", 3, 2);
        faultIs("0x", 3, 0);
        faultIs("w 0X1", 5, 3);
        faultIs("w 0xfg", 5, 5);
        faultIs("w 12a", 5, 4);
        faultIs("w 0b12", 5, 5);
        faultIs("w 0b2", 5, 3);
        faultIs("w 0B1", 5, 3);
        faultIs("w 1 4294967296", 3, 4);
    }

    private static void locals() {
        isRead("w 0b, 0f, 1b, 9f,1b+1f,(2b)", 1);
        isRead("w 0b0, 0b1", 1);
        faultIs("w 12f", 5, 4);
        faultIs("w 1bx", 5, 3);
        faultIs("w 1b1", 5, 3);
        faultIs("w 1b.", 5, 3);
        faultIs("w 1f_", 5, 3);
        faultIs("w 1f$", 5, 3);
        faultIs("w 1c", 5, 3);
        faultIs("1b:", 5, 0);
        faultIs("0b", 5, 0);
        faultIs("w 00b", 5, 4);
    }

    private static void quoted() {
        isRead("w 'a', ' ', '\"', '\\n', '\\t', '\\0', '\\\\', '\\'', '\\\"', '~', '#'", 1);
        for (String bad : new String[] {"'", "''", "'''", "'a", "'ab'", "'\\", "'\\'", "'\\x'", "'\\n", "'\t'", "'\n'", "'\u007f'",
            "'\u00e9'", "'\\nn'"}) {
            faultIs("w " + bad, 4, 2);
        }
        isRead("w \"\", \"'\", \"#\", \"\\n\\t\\0\\\\\\'\\\"\"", 1);
        for (String bad : new String[] {"\"", "\"a", "\"\\\"", "\"\\", "\"a\\x\"", "\"\t\"", "\"\n\"", "\"a\u0001\"", "\"\u00ff\"",
            "\"\u007f\""}) {
            faultIs("w " + bad, 4, 2);
        }
        faultIs("\"", 4, 0);
        faultIs("w \"\"\"\"", 5, 4);
        faultIs("w \"\"\"", 4, 4);
    }

    private static void lines() {
        isRead("a: b: 1: 1: c 2\nd\n1:\n\n", 7);
        isRead("a : a : a", 3);
        faultIs(".", 5, 0);
        faultIs(".:", 5, 0);
        faultIs("a: .", 5, 3);
        faultIs("a0:", 5, 2);
        faultIs("a0 :", 5, 3);
        faultIs("10:", 5, 0);
        faultIs("00:", 5, 0);
        faultIs("0x1:", 5, 0);
        faultIs("'1':", 5, 0);
        faultIs("1", 5, 1);
        faultIs("1\n", 5, 1);
        faultIs("1 # c\na", 5, 5);
        faultIs("a\n1 b", 5, 4);
        faultIs("1 .", 5, 2);
        faultIs(":", 5, 0);
        faultIs("a::", 5, 2);
        faultIs("a b:", 5, 3);
        faultIs("a: b c: d", 5, 6);
        faultIs(", a", 5, 0);
        faultIs("(a0)", 5, 0);
        faultIs("\"s\"", 5, 0);
        faultIs("-", 5, 0);
        faultIs("a\n b\n  +", 5, 7);
        faultIs("x: \n y: z ,\n $", 5, 10);
        faultIs("1 \u0001", 1, 2);
        faultIs("1 0x", 3, 2);
    }

    private static void operands() {
        faultIs("w ,", 5, 2);
        faultIs("w 1,", 5, 4);
        faultIs("w 1,\nv", 5, 4);
        faultIs("w 1, # c\nv", 5, 8);
        faultIs("w 1,,2", 5, 4);
        faultIs("w 1 2", 5, 4);
        faultIs("w a b", 5, 4);
        faultIs("w a a0", 5, 4);
        faultIs("w a0 a", 5, 5);
        faultIs("w a0 + 1", 5, 5);
        faultIs("w a0(a1)", 5, 4);
        faultIs("w \"s\" 1", 5, 6);
        faultIs("w \"s\"(a0)", 5, 5);
        faultIs("w \"s\"+1", 5, 5);
        faultIs("w )", 5, 2);
        faultIs("w *1", 5, 2);
        faultIs("w +1", 5, 2);
        isRead("w :", 1);
    }

    private static void memories() {
        isRead("w (a0),1(a0),a(a0),.(a0),1b(a0),(1)(a0),-1(a0),%hi(1)(a0), ( a0 ) , 1 ( a0 )", 1);
        faultIs("w (a0", 5, 5);
        faultIs("w (a0 1)", 5, 6);
        faultIs("w (a0+1)", 5, 5);
        faultIs("w (a0)+1", 5, 6);
        faultIs("w (a0)(a1)", 5, 6);
        faultIs("w 1(a0)(a1)", 5, 7);
        faultIs("w 1(b)", 5, 4);
        faultIs("w 1(1)", 5, 4);
        faultIs("w 1()", 5, 4);
        faultIs("w 1(", 5, 4);
        faultIs("w 1(.)", 5, 4);
        faultIs("w ()", 5, 3);
        faultIs("w (", 5, 3);
        faultIs("w ((a0))", 6, 4);
        faultIs("w (1(a0))", 5, 4);
    }

    private static void expressions() {
        faultIs("w 1 +", 5, 5);
        faultIs("w 1 +\n", 5, 5);
        faultIs("w 1 + + 2", 5, 6);
        faultIs("w 1 + * 2", 5, 6);
        faultIs("w 1 + ,", 5, 6);
        faultIs("w 1 + )", 5, 6);
        faultIs("w 1 + :", 5, 6);
        faultIs("w 1 + \"s\"", 5, 6);
        faultIs("w 1 + %hi(2)", 5, 6);
        faultIs("w 1 ~ 2", 5, 4);
        faultIs("w -", 5, 3);
        faultIs("w -)", 5, 3);
        faultIs("w (1", 5, 4);
        faultIs("w (1,2)", 5, 4);
        faultIs("w 1)", 5, 3);
        faultIs("w (1))", 5, 5);
        faultIs("w 1 + a0", 6, 6);
        faultIs("w -sp", 6, 3);
        faultIs("w -(sp)", 6, 4);
        faultIs("w 1 * (zero)", 6, 7);
        faultIs("w (1 + x0", 6, 7);
        faultIs("w 1 % hi(a)", 5, 9);
        isRead("w 1 % hi(a0)", 1);
    }

    private static void marks() {
        isRead("w %hi(1), %lo(a), %pcrel_hi(.), %pcrel_lo(1b)", 1);
        faultIs("w %up(1)", 6, 3);
        faultIs("w %.(1)", 6, 3);
        faultIs("w %a0(1)", 6, 3);
        faultIs("w %hix", 6, 3);
        faultIs("w %HI(1)", 6, 3);
        faultIs("w %", 5, 3);
        faultIs("w %1", 5, 3);
        faultIs("w %(1)", 5, 3);
        faultIs("w %hi", 5, 5);
        faultIs("w %hi 1", 5, 6);
        faultIs("w %hi()", 5, 6);
        faultIs("w %hi(1", 5, 7);
        faultIs("w %hi(1(a0))", 5, 7);
        faultIs("w %hi(a0)", 6, 6);
        faultIs("w %hi((a0))", 6, 7);
        faultIs("w %hi(1)+1", 5, 8);
        faultIs("w %hi(%lo(1))", 5, 6);
        faultIs("w %hi(1)(1)", 5, 9);
        faultIs("w -%hi(1)", 5, 3);
        faultIs("w (%hi(1))", 5, 3);
    }

    private static void depths() {
        String open = Checks.many("(", 19, "");
        String close = Checks.many(")", 19, "");
        isRead("w " + open + "1" + close, 1);
        isRead("w %hi(" + open + "1" + close + ")(a0)", 1);
        isRead("w " + open + "1+2*a" + close + "*" + open + "1" + close, 1);
        isRead("w " + Checks.many("-", 19, "") + "1", 1);
        faultIs("w " + open + "(1)" + close, 7, 22);
        faultIs("w " + open + "( (1))" + close, 7, 23);
        faultIs("w " + open + "-1" + close, 7, 22);
        faultIs("w " + open + "~ -1" + close, 7, 23);
        faultIs("w " + Checks.many("~", 20, "") + "a", 7, 22);
        faultIs("w 1+" + open + "2+(3)" + close, 7, 26);
        faultIs("w %hi(" + open + "(1)" + close + ")", 7, 26);
        faultIs("w " + open + "()" + close, 5, 22);
        faultIs("w " + open + "(", 5, 22);
        faultIs("w " + open + "(+", 5, 22);
        faultIs("w " + open + "(\"s\"", 5, 22);
        faultIs("w " + open + "(a0", 6, 22);
        faultIs("w " + open + "($", 1, 22);
        faultIs("w " + open + "(0x", 3, 22);
        faultIs("w " + open + "('", 4, 22);
        faultIs("w " + open + "(abcdefghijklmnopq", 2, 22);
        isRead("w " + Checks.many("-(", 9, "") + "-1" + Checks.many(")", 9, ""), 1);
        faultIs("w " + Checks.many("-(", 9, "") + "-(1)", 7, 22);
    }

    private static void limits() {
        statementLimit();
        operandLimit();
        itemLimits();
        nameLimit();
    }

    private static void statementLimit() {
        isRead(Checks.many("a:", 400, ""), 400);
        isRead(Checks.many("1:", 399, "\n") + "a 1", 400);
        faultIs(Checks.many("a:", 401, ""), 8, 800);
        faultIs(Checks.many("a:", 400, "") + "1:", 8, 800);
        faultIs(Checks.many("a:", 400, "") + "1 $", 8, 800);
        faultIs(Checks.many("a:", 400, "") + " b $", 8, 801);
        faultIs(Checks.many("a:", 400, "") + "\nx0:", 8, 801);
        faultIs(Checks.many("a:", 400, "") + ".", 5, 800);
        faultIs(Checks.many("a:", 400, "") + "10", 5, 800);
        faultIs(Checks.many("a:", 400, "") + "0x", 3, 800);
        isRead(Checks.many("a:", 400, "") + " # end\n\n", 400);
    }

    private static void operandLimit() {
        String full = "w " + Checks.many("1", 800, ",");
        isRead(full, 1);
        isRead(full + "\nv", 2);
        faultIs(full + ",1", 8, 1602);
        for (String next : new String[] {"a0", "\"\"", "(a0)", "(1)", "($", "%", "%up", "-$", "~", ".", "1b", "a", "'a'"}) {
            faultIs(full + "," + next, 8, 1602);
            faultIs(full + "\nv " + next, 8, 1604);
        }
        faultIs(full + ",", 5, 1602);
        faultIs(full + ",,", 5, 1602);
        faultIs(full + ",*", 5, 1602);
        faultIs(full + ",'", 4, 1602);
        isRead("w " + Checks.many("a0", 800, ","), 1);
    }

    private static void itemLimits() {
        String thirty = Checks.many("1", 30, "+");
        isRead("w -" + thirty, 1);
        isRead("w %hi(-" + thirty + ")(a0)", 1);
        faultIs("w --" + thirty, 8, 62);
        faultIs("w " + thirty + "+1", 8, 62);
        faultIs("w -" + thirty + "+1", 8, 62);
        faultIs("w " + thirty + "+$", 1, 62);
        faultIs("w -" + thirty + "+$", 8, 62);
        faultIs("w " + thirty + "+-1", 8, 62);
        faultIs("w " + thirty + "+(a0)", 6, 63);
        faultIs("w " + thirty + "+(1", 8, 63);
        faultIs("w " + Checks.many("1+2*", 15, "") + "1", 8, 62);
        isRead("w -" + thirty + ",-" + thirty, 1);
        // 33 EXPRESSIONS of 60 ITEMS, and one of 19.
        String nearly = "w " + Checks.many("-" + thirty, 33, ",") + "," + Checks.many("1", 10, "+");
        int end = nearly.length();
        Checks.due("ITEMS of a full text", Checks.reader(nearly + ",1").count(2), 2000);
        isRead(nearly + ",(a0),a0,\"\"", 1);
        faultIs(nearly + ",1,2", 8, end + 3);
        faultIs(nearly + ",1+2", 8, end + 2);
        faultIs(nearly + ",-2", 8, end + 2);
        faultIs(nearly + "+2", 8, end + 1);
        faultIs(nearly + "+$", 1, end + 1);
        faultIs(nearly + ",1,(a0", 8, end + 3);
        faultIs(nearly + ",1,(a0)", 8, end + 3);
        faultIs(nearly + ",1,($", 1, end + 4);
        faultIs(nearly + ",1,(((2", 8, end + 6);
        faultIs(nearly + ",1,%up", 6, end + 4);
        faultIs(nearly + ",1,a0,-$", 8, end + 6);
        isRead(nearly + ",1\n x: y a0", 3);
    }

    private static String manyNames(int count, String between) {
        StringBuilder b = new StringBuilder();
        for (int i = 0; i < count; i++) {
            b.append(i == 0 ? "" : between).append((char) ('A' + i % 26)).append(i / 26);
        }
        return b.toString();
    }

    private static void nameLimit() {
        String full = manyNames(150, ":") + ":";
        int end = full.length();
        isRead(full, 150);
        isRead(full + manyNames(150, ":") + ":A0 a0,B0,(sp),%hi(C0),.", 301);
        faultIs(full + "new", 8, end);
        faultIs(full + "new $", 8, end);
        faultIs(full + "a0", 8, end);
        faultIs(full + "A0 new", 8, end + 3);
        faultIs(full + "A0 1+new+$", 8, end + 5);
        faultIs(full + "A0 %hi(new", 8, end + 7);
        faultIs(full + "A0 %up", 6, end + 4);
        isRead("w " + manyNames(149, ","), 1);
        faultIs("w " + manyNames(150, ","), 8, 2 + manyNames(149, ",").length() + 1);
    }
}
