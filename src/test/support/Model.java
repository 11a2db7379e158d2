import java.util.ArrayList;
import java.util.HashMap;
import java.util.List;
import java.util.Map;
import java.util.regex.Matcher;
import java.util.regex.Pattern;

/** The document a second time, with trees and the library, to set the class against. */
final class Model {
    static final class Fault extends Exception {
        private static final long serialVersionUID = 1;
        final int number;
        final int place;

        Fault(int number, int place) {
            this.number = number;
            this.place = place;
        }
    }

    private record Word(char kind, String text, int place, int fault) {
    }

    private record Node(int sort, int value, Node left, Node right) {
    }

    private static final Pattern WORD = Pattern.compile(
        "(?<n>[A-Za-z_.][A-Za-z0-9_.$]*)|(?<l>[0-9][bf](?![A-Za-z0-9_.$]))|(?<d>0x[0-9a-fA-F]*|0b[01]+|[0-9]+)"
        + "|(?<c>'(?:[ -&(-\\[\\]-~]|\\\\[nt0\\\\'\"])')|(?<s>\"(?:[ !#-\\[\\]-~]|\\\\[nt0\\\\'\"])*\")"
        + "|(?<g><<|>>|[,():+*/%&|^~-])|(?<e>\n)|(?<b>[ \t]+|#[ -~\t]*)");
    private static final String[] KINDS = {"n", "l", "d", "c", "s", "g", "e", "b"};
    private static final List<String> MARKS = List.of("hi", "lo", "pcrel_hi", "pcrel_lo");
    private static final List<String> SIGNS = List.of("+", "-", "*", "/", "%", "<<", ">>", "&", "^", "|");
    private static final List<List<String>> LEVELS = List.of(List.of("|"), List.of("^"), List.of("&"),
        List.of("<<", ">>"), List.of("+", "-"), List.of("*", "/", "%"));
    private static final Map<String, Integer> REGISTERS = registers();

    /** sort, value, first operand, operands, place, line. */
    final List<int[]> statements = new ArrayList<>();
    /** sort, register, mark, first item, items, place, string's bytes. */
    final List<int[]> operands = new ArrayList<>();
    final List<int[]> items = new ArrayList<>();
    final List<String> names = new ArrayList<>();
    final List<String> strings = new ArrayList<>();
    final List<Long> constants = new ArrayList<>();
    final List<String> told = new ArrayList<>();

    private final List<Word> words = new ArrayList<>();
    private int at;
    private int itemsBefore;
    private int itemsHere;

    private static Map<String, Integer> registers() {
        Map<String, Integer> map = new HashMap<>();
        for (int i = 0; i < 32; i++) {
            map.put("x" + i, i);
        }
        String[] order = ("zero ra sp gp tp t0 t1 t2 s0 s1 a0 a1 a2 a3 a4 a5 a6 a7 "
            + "s2 s3 s4 s5 s6 s7 s8 s9 s10 s11 t3 t4 t5 t6").split(" ");
        for (int i = 0; i < 32; i++) {
            map.put(order[i], i);
        }
        map.put("fp", 8);
        return map;
    }

    Model(String text) throws Fault {
        split(text);
        int line = 0;
        while (true) {
            readLine(line);
            if (at == words.size() - 1) {
                return;
            }
            at++;
            line++;
        }
    }

    private void split(String text) {
        Matcher m = WORD.matcher(text);
        int place = 0;
        while (place < text.length()) {
            m.region(place, text.length());
            if (!m.lookingAt()) {
                char c = text.charAt(place);
                words.add(new Word('!', "", place, c == '\'' || c == '"' ? 4 : 1));
                return;
            }
            char kind = ' ';
            for (String k : KINDS) {
                kind = m.group(k) != null ? k.charAt(0) : kind;
            }
            int fault = kind == 'n' && m.group().length() > 16 ? 2 : kind == 'd' && isBadNumber(m.group()) ? 3 : 0;
            if (fault != 0) {
                words.add(new Word('!', "", place, fault));
                return;
            }
            if (kind != 'b') {
                words.add(new Word(kind, m.group(), place, 0));
            }
            place = m.end();
        }
        words.add(new Word('e', "", place, 0));
    }

    private static boolean isBadNumber(String text) {
        return text.equals("0x") || number(text).bitLength() > 32;
    }

    private static java.math.BigInteger number(String text) {
        return text.startsWith("0x") ? new java.math.BigInteger(text.substring(2), 16)
            : text.startsWith("0b") ? new java.math.BigInteger(text.substring(2), 2)
            : new java.math.BigInteger(text);
    }

    private Word now() throws Fault {
        Word w = words.get(at);
        if (w.kind == '!') {
            throw new Fault(w.fault, w.place);
        }
        return w;
    }

    private boolean isNext(String sign) {
        return at + 1 < words.size() && words.get(at + 1).kind == 'g' && words.get(at + 1).text.equals(sign);
    }

    private boolean isSign(String sign) throws Fault {
        return now().kind == 'g' && now().text.equals(sign);
    }

    private void take(String sign) throws Fault {
        if (!isSign(sign)) {
            throw new Fault(5, now().place);
        }
        at++;
    }

    private static boolean isRegister(Word w) {
        return w.kind == 'n' && REGISTERS.containsKey(w.text);
    }

    private int nameNumber(Word w) throws Fault {
        if (!names.contains(w.text)) {
            if (names.size() == 150) {
                throw new Fault(8, w.place);
            }
            names.add(w.text);
        }
        return names.indexOf(w.text);
    }

    private int[] begin(int sort, int value, Word w, int line) throws Fault {
        if (statements.size() == 400) {
            throw new Fault(8, w.place);
        }
        int[] s = {sort, value, operands.size(), 0, w.place, line};
        statements.add(s);
        return s;
    }

    private void readLine(int line) throws Fault {
        while (now().kind != 'e') {
            Word w = now();
            if (w.kind == 'd' && w.text.length() == 1) {
                begin(1, w.text.charAt(0) - '0', w, line);
                told.add(w.text + ":");
            } else if (w.kind == 'n' && !w.text.equals(".")) {
                boolean label = !isRegister(w) && isNext(":");
                int[] s = begin(label ? 0 : 2, nameNumber(w), w, line);
                if (!label) {
                    at++;
                    readOperands(s, w.text);
                    return;
                }
                told.add(w.text + ":");
            } else {
                throw new Fault(5, w.place);
            }
            at++;
            take(":");
        }
    }

    private void readOperands(int[] s, String word) throws Fault {
        List<String> parts = new ArrayList<>();
        if (now().kind != 'e') {
            parts.add(readOperand());
            while (isSign(",")) {
                at++;
                parts.add(readOperand());
            }
        }
        if (now().kind != 'e') {
            throw new Fault(5, now().place);
        }
        s[3] = parts.size();
        told.add(parts.isEmpty() ? word : word + " " + String.join(", ", parts));
    }

    private String readOperand() throws Fault {
        Word w = now();
        if (w.kind == 'e' || w.kind == 'g' && !List.of("(", "-", "~", "%").contains(w.text)) {
            throw new Fault(5, w.place);
        }
        if (operands.size() == 800) {
            throw new Fault(8, w.place);
        }
        int[] o = {0, -1, 0, items.size(), 0, w.place, 0};
        itemsBefore = items.size();
        itemsHere = 0;
        operands.add(o);
        strings.add("");
        constants.add(1L << 40);
        if (isRegister(w)) {
            o[0] = 1;
            return readRegister(o);
        }
        if (w.kind == 's') {
            return readString(o, w);
        }
        String text;
        Node tree;
        if (isSign("(") && isRegister(words.get(at + 1))) {
            countItem(w);
            tree = new Node(0, 0, null, null);
            text = "0";
        } else {
            String mark = isSign("%") ? readMark(o) : "";
            tree = readLevel(0, 1);
            text = tell(tree);
            if (!mark.isEmpty()) {
                take(")");
                text = "%" + mark + "(" + text + ")";
            }
        }
        list(tree);
        o[4] = items.size() - o[3];
        Long constant = work(tree);
        constants.set(constants.size() - 1, constant == null ? 1L << 40 : constant);
        if (isSign("(")) {
            o[0] = 2;
            at++;
            text += "(" + readRegister(o) + ")";
            take(")");
        }
        return text;
    }

    private String readRegister(int[] o) throws Fault {
        if (!isRegister(now())) {
            throw new Fault(5, now().place);
        }
        o[1] = REGISTERS.get(now().text);
        at++;
        return "x" + o[1];
    }

    private String readMark(int[] o) throws Fault {
        at++;
        Word w = now();
        if (w.kind != 'n') {
            throw new Fault(5, w.place);
        }
        if (!MARKS.contains(w.text)) {
            throw new Fault(6, w.place);
        }
        o[2] = MARKS.indexOf(w.text) + 1;
        at++;
        take("(");
        return w.text;
    }

    private static String plain(String quoted) {
        StringBuilder b = new StringBuilder();
        for (int i = 1; i < quoted.length() - 1; i++) {
            char c = quoted.charAt(i);
            if (c == '\\') {
                i++;
                char d = quoted.charAt(i);
                c = d == 'n' ? '\n' : d == 't' ? '\t' : d == '0' ? '\0' : d;
            }
            b.append(c);
        }
        return b.toString();
    }

    private String readString(int[] o, Word w) {
        String s = plain(w.text);
        strings.set(strings.size() - 1, s);
        o[0] = 3;
        o[6] = s.length();
        at++;
        return '"' + s.replace("\\", "\\\\").replace("\"", "\\\"").replace("\n", "\\n")
            .replace("\t", "\\t").replace("\0", "\\0") + '"';
    }

    private void countItem(Word w) throws Fault {
        itemsHere++;
        if (itemsHere > 60 || itemsBefore + itemsHere > 2000) {
            throw new Fault(8, w.place);
        }
    }

    private Node readLevel(int level, int depth) throws Fault {
        if (level == LEVELS.size()) {
            return readOne(depth);
        }
        Node left = readLevel(level + 1, depth);
        while (now().kind == 'g' && LEVELS.get(level).contains(now().text)) {
            Word sign = now();
            countItem(sign);
            at++;
            left = new Node(12 + SIGNS.indexOf(sign.text), 0, left, readLevel(level + 1, depth));
        }
        return left;
    }

    private Node readOne(int depth) throws Fault {
        Word w = now();
        boolean ahead = isSign("-") || isSign("~");
        if (w.kind == 'e' || w.kind == 's' || w.kind == 'g' && !ahead && !isSign("(")) {
            throw new Fault(5, w.place);
        }
        if (isRegister(w)) {
            throw new Fault(6, w.place);
        }
        if (depth > 20) {
            throw new Fault(7, w.place);
        }
        if (isSign("(")) {
            at++;
            Node inner = readLevel(0, depth + 1);
            take(")");
            return inner;
        }
        countItem(w);
        if (ahead) {
            at++;
            return new Node(w.text.equals("-") ? 10 : 11, 0, readOne(depth + 1), null);
        }
        Node leaf = leaf(w);
        at++;
        return leaf;
    }

    private Node leaf(Word w) throws Fault {
        switch (w.kind) {
            case 'd':
                return new Node(0, number(w.text).intValue(), null, null);
            case 'c':
                return new Node(0, plain(w.text).charAt(0), null, null);
            case 'l':
                return new Node(2, 2 * (w.text.charAt(0) - '0') + (w.text.charAt(1) == 'f' ? 1 : 0), null, null);
            default:
                return w.text.equals(".") ? new Node(3, 0, null, null) : new Node(1, nameNumber(w), null, null);
        }
    }

    private void list(Node n) {
        if (n.left != null) {
            list(n.left);
        }
        if (n.right != null) {
            list(n.right);
        }
        items.add(new int[] {n.sort, n.value});
    }

    private static int levelOf(Node n) {
        for (int i = 0; i < LEVELS.size(); i++) {
            if (n.sort >= 12 && LEVELS.get(i).contains(SIGNS.get(n.sort - 12))) {
                return i;
            }
        }
        return 99;
    }

    private String side(Node n, boolean wrapped) {
        return wrapped ? "(" + tell(n) + ")" : tell(n);
    }

    private String tell(Node n) {
        switch (n.sort) {
            case 0:
                return Long.toString(n.value & 0xFFFFFFFFL);
            case 1:
                return names.get(n.value);
            case 2:
                return n.value / 2 + (n.value % 2 == 0 ? "b" : "f");
            case 3:
                return ".";
            case 10:
            case 11:
                return (n.sort == 10 ? "-" : "~") + side(n.left, n.left.sort >= 12);
            default:
                return side(n.left, levelOf(n.left) < levelOf(n)) + " " + SIGNS.get(n.sort - 12) + " "
                    + side(n.right, levelOf(n.right) <= levelOf(n));
        }
    }

    private static Long work(Node n) {
        if (n.sort == 0) {
            return (long) n.value;
        }
        Long l = n.left == null ? null : work(n.left);
        Long r = n.right == null ? null : work(n.right);
        if (l == null || n.sort >= 12 && (r == null || r == 0 && (n.sort == 15 || n.sort == 16))) {
            return null;
        }
        switch (n.sort) {
            case 10: return (long) (int) -l;
            case 11: return ~l;
            case 12: return (long) (int) (l + r);
            case 13: return (long) (int) (l - r);
            case 14: return (long) (int) (l * r);
            case 15: return (long) (int) (l / r);
            case 16: return l % r;
            case 17: return (long) (int) (l << (r & 31));
            case 18: return (long) (int) ((l & 0xFFFFFFFFL) >> (r & 31));
            case 19: return l & r;
            case 20: return l ^ r;
            default: return l | r;
        }
    }
}
