import java.util.Random;

/** Texts made from fixed seeds: the class answers as a second, plainer reading of the document does. */
public final class ModelTest {
    private static final String[] PARTS = {
        "a", "b", "loop", ".x", "_y$", "q.1", "seventeen_letters", "sixteen_letters_", "a0", "x31", "x32", "x07", "zero",
        "sp", "fp", "s11", "s12", "t6", "t7", "ra", ".", "hi", "lo", "pcrel_hi", "pcrel_lo", "0", "1", "7", "12", "007",
        "4294967295", "4294967296", "0x", "0xFf", "0x1ffffffff", "0xffffffff", "0b", "0b101", "0b2", "0f", "1b", "9f",
        "12f", "1bx", "'a'", "'\\n'", "'\"'", "'\\''", "'ab'", "''", "'", "\"\"", "\"a b#\"", "\"\\t\\0\\\\\\\"\\'\"",
        "\"x", "\"\\q\"", ",", "(", ")", ":", "+", "-", "*", "/", "%", "&", "|", "^", "~", "<<", ">>", "<", ">", " ",
        "\t", "\n", "#", "# c\tc\n", "# \u00e9", "$", "\\", "\u0000", "\r", "\u007f", "\u00ff", "=", "%hi(", "(a0)"};

    private static final Random CHANCE = new Random(20261116);

    private static int upTo(int n) {
        return CHANCE.nextInt(n);
    }

    private static String pick(String... parts) {
        return parts[upTo(parts.length)];
    }

    private static String blank() {
        return pick("", "", "", " ", "\t ");
    }

    private static String expression(int room) {
        int sort = upTo(room <= 0 ? 5 : 10);
        switch (sort) {
            case 0:
                return pick("0", "1", "3", "0x10", "0b11", "4294967295", "2147483648", "31", "33", "'z'");
            case 1:
                return pick("a", "tab", ".L0", "hi", "x32", "end$");
            case 2:
                return pick("1b", "0f", "0b", "9f");
            case 3:
                return pick(".", "2", "5", "7");
            case 4:
                return pick("6", "8", "9", "100");
            case 5:
                return pick("-", "~") + blank() + expression(room - 1);
            case 6:
                return "(" + blank() + expression(room - 1) + blank() + ")";
            default:
                return expression(room - 1) + " " + pick("+", "-", "*", "/", "%", "<<", ">>", "&", "^", "|") + blank()
                    + expression(room - 1);
        }
    }

    private static String oneOperand() {
        String register = pick("a0", "sp", "x0", "x31", "t3", "s11", "fp", "zero", "tp", "gp", "s1", "s2", "t2");
        switch (upTo(7)) {
            case 0:
                return register;
            case 1:
                return pick("\"\"", "\"a\\n\"", "\"\\\\ \\\" ' \\' \\0\\t#\"");
            case 2:
                return "(" + blank() + register + blank() + ")";
            case 3:
                return expression(upTo(5)) + blank() + "(" + register + ")";
            case 4:
                return "%" + blank() + pick("hi", "lo", "pcrel_hi", "pcrel_lo") + blank() + "(" + expression(upTo(4)) + ")"
                    + pick("", "(" + register + ")");
            default:
                return expression(upTo(7));
        }
    }

    private static String line() {
        StringBuilder b = new StringBuilder(blank());
        for (int n = upTo(3); n > 0; n--) {
            b.append(pick("l1", "start", ".L0", "1", "7")).append(blank()).append(":").append(blank());
        }
        if (upTo(5) > 0) {
            b.append(pick("li", "lw", ".word", "a0", "x5"));
            for (int n = upTo(5), i = 0; i < n; i++) {
                b.append(i == 0 ? " " : blank() + "," + blank()).append(oneOperand());
            }
        }
        return b.append(blank()).append(pick("", "", "# note: 'x' \"y")).toString();
    }

    private static String lines() {
        StringBuilder b = new StringBuilder(line());
        for (int n = upTo(6); n > 0; n--) {
            b.append('\n').append(line());
        }
        return b.toString();
    }

    private static String soup() {
        StringBuilder b = new StringBuilder();
        for (int n = upTo(12); n > 0; n--) {
            b.append(PARTS[upTo(PARTS.length)]).append(pick("", " "));
        }
        return b.toString();
    }

    private static String spoilt(String text) {
        int from = upTo(text.length() + 1);
        int to = Math.min(text.length(), from + upTo(3));
        return text.substring(0, from) + pick("", PARTS[upTo(PARTS.length)]) + text.substring(to);
    }

    private static String deep() {
        StringBuilder b = new StringBuilder("w ");
        for (int n = 15 + upTo(8); n > 0; n--) {
            b.append(pick("-", "~", "(", "(", "1+(", "2*-"));
        }
        b.append(pick("1", "a", "a0", ")", "", "'", "+", "(", "-1", "99999999999", "\"\""));
        return b + Checks.many(")", upTo(20), "");
    }

    /** Many of something, so that the limits of FAULT 8 are met. */
    private static String large() {
        StringBuilder b = new StringBuilder();
        int sort = upTo(6);
        int most = 2700 + upTo(300);
        String tail = "";
        while (b.length() < most) {
            int n = b.length();
            switch (sort) {
                case 0:
                    b.append(pick("a:", "1:", "b\n", "c d\n", "x1 1,2\n"));
                    break;
                case 1:
                    b.append(n == 0 ? "w " : ",").append(pick("1", "2", "a0", "(a0)", "\"\"", "b", "3"));
                    break;
                case 2:
                    b.append(n == 0 ? "w " : ",").append(Checks.many(pick("1", "2", "-1"), 15 + upTo(16), pick("+", "*", "|")));
                    break;
                case 3:
                    b.append(n == 0 ? "w " : pick(",", "+")).append((char) ('a' + n % 26)).append((char) ('A' + n / 7 % 26));
                    break;
                case 4:
                    b.append((char) ('b' + n % 20)).append((char) ('A' + n / 7 % 26)).append(pick(":", "\n", " a0\n"));
                    break;
                default:
                    b.append(n == 0 ? "w " : ",").append(Checks.many("1", 20 + upTo(10), "+")).append(pick("", "(a0)"));
                    break;
            }
        }
        tail = b.length() > 3000 ? b.substring(0, 3000) : b.toString();
        return tail;
    }

    private static void compareOperand(Readers readers, Model m, int j, String at) {
        Counted x = readers.with(40);
        for (int what = 0; what < 7; what++) {
            Checks.due(at + " operand " + j + " " + what, x.operand(j, what), m.operands.get(j)[what]);
        }
        Checks.due(at + " constant " + j, x.constant(j), m.constants.get(j));
        Checks.same(at + " string " + j, Checks.stringOf(x, j), m.strings.get(j));
    }

    private static void compareStatement(Readers readers, Model m, int k, String at) {
        Counted x = readers.with(6);
        for (int what = 0; what < 6; what++) {
            Checks.due(at + " statement " + k + " " + what, x.statement(k, what), m.statements.get(k)[what]);
        }
        Checks.same(at + " tell " + k, readers.told(k), m.told.get(k));
    }

    private static void compare(Readers readers, Model m, String at) {
        Counted x = readers.with(4);
        Checks.due(at + " statements", x.count(0), m.statements.size());
        Checks.due(at + " operands", x.count(1), m.operands.size());
        Checks.due(at + " items", x.count(2), m.items.size());
        Checks.due(at + " names", x.count(3), m.names.size());
        for (int k = 0; k < m.statements.size(); k++) {
            compareStatement(readers, m, k, at);
        }
        for (int j = 0; j < m.operands.size(); j++) {
            compareOperand(readers, m, j, at);
        }
        for (int t = 0; t < m.items.size(); t++) {
            Counted y = readers.with(2);
            Checks.due(at + " item " + t, y.item(t, 0), m.items.get(t)[0]);
            Checks.due(at + " item's value " + t, y.item(t, 1), m.items.get(t)[1]);
        }
        for (int k = 0; k < m.names.size(); k++) {
            Checks.same(at + " name " + k, Checks.nameOf(readers.with(17), k), m.names.get(k));
        }
    }

    /** What is told reads as that of which it was told: telling it again changes nothing. */
    private static void readAgain(Model m, String at) {
        for (int k = 0; k < m.told.size(); k++) {
            String told = m.told.get(k);
            if (told.length() <= 3000) {
                Readers again = new Readers(told);
                Checks.same(at + " reading <" + told + ">", again.outcome(), "read 1");
                Checks.same(at + " telling again", again.told(0), told);
                Checks.due(at + " sort again", again.with(1).statement(0, 0), m.statements.get(k)[0]);
                int first = m.statements.get(k)[2];
                for (int j = 0; j < m.statements.get(k)[3]; j++) {
                    Checks.due(at + " constant again", again.with(1).constant(j), m.constants.get(first + j));
                    Checks.due(at + " items again", again.with(1).operand(j, 4), m.operands.get(first + j)[4]);
                }
            }
        }
    }

    private static String text(int round) {
        String text;
        switch (round % 200 == 7 ? 8 : round % 8) {
            case 0:
            case 1:
                text = lines();
                break;
            case 2:
            case 3:
            case 4:
                text = spoilt(lines());
                break;
            case 5:
            case 6:
                text = soup();
                break;
            case 7:
                text = upTo(2) == 0 ? deep() : "";
                break;
            default:
                text = upTo(3) == 0 ? spoilt(large()) : large();
                break;
        }
        return text.length() > 3000 ? text.substring(0, 3000) : text;
    }

    public static void main(String[] args) throws Model.Fault {
        // What was read before is short, so that an object has calls left behind both texts.
        String before = "";
        int faults = 0;
        int rounds = args.length > 0 ? Integer.parseInt(args[0]) : 20000;
        for (int round = 0; round < rounds; round++) {
            String text = text(round);
            String at = "round " + round + " <" + (text.length() > 400 ? text.length() + " bytes" : text) + ">";
            Readers readers = new Readers(before, text);
            try {
                Model m = new Model(text);
                Checks.same(at, readers.outcome(), "read " + m.statements.size());
                compare(readers, m, at);
                readAgain(m, at);
                before = text.length() <= 1000 ? text : before;
            } catch (Model.Fault f) {
                faults++;
                Checks.same(at, readers.outcome(), "fault " + f.number + " at " + f.place);
                Model old = new Model(before);
                Checks.due(at + " leaves what was read", readers.with(1).count(0), old.statements.size());
                if (faults % 50 == 0) {
                    compare(readers, old, at + " then");
                }
            }
        }
        System.out.println(rounds + " texts, " + faults + " of them with a fault");
        Checks.finish();
    }
}
