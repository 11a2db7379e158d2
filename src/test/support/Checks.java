import java.io.IOException;
import java.lang.reflect.InvocationTargetException;
import java.lang.reflect.Method;
import java.nio.charset.StandardCharsets;
import java.nio.file.Files;
import java.nio.file.Path;
import java.util.Arrays;
import java.util.Comparator;

/** What the project's tests have in common: texts in and out of a UnitText, and counting what is wrong. */
final class Checks {
    private static final Path DOCUMENT = Path.of("..", "shared", "DOC.md");

    private static int wrong = 0;
    private static int made = 0;
    private static String held = "";
    private static int sentences = 0;

    private Checks() {
    }

    static void same(String call, Object got, Object want) {
        made++;
        if (!got.equals(want)) {
            wrong++;
            if (wrong <= 50) {
                System.out.println(held + call + " answered " + got + ", due is " + want);
            }
        }
    }

    /** Which sentence of the document, in its own words, the test that says so holds: a promise's or a term's. */
    static void sentence(String where, String words) {
        sentences++;
        held = "[" + where + ": " + words + "] ";
    }

    /** Runs each method of a class that has no parameters and answers nothing: each holds one sentence. */
    static void runSentences(Class<?> tests) throws IllegalAccessException, IOException {
        String document = Files.exists(DOCUMENT) ? flat(Files.readString(DOCUMENT)) : null;
        Method[] methods = tests.getDeclaredMethods();
        Arrays.sort(methods, Comparator.comparing(Method::getName));
        for (Method method : methods) {
            if (method.getParameterCount() == 0 && method.getReturnType() == void.class) {
                int before = sentences;
                try {
                    method.invoke(null);
                } catch (InvocationTargetException e) {
                    same(method.getName(), "throws " + e.getCause(), "nothing thrown");
                }
                same(method.getName() + ": sentences", sentences - before, 1);
                String words = held.substring(held.indexOf(": ") + 2, held.length() - 2);
                same(method.getName() + ": is in the document", document == null || document.contains(flat(words)), true);
                held = "";
            }
        }
        System.out.println(sentences + " sentences");
    }

    private static String flat(String text) {
        return text.replaceAll("\\s+", " ");
    }

    static void faultIs(String text, int number, int place) {
        same(shown(text), outcome(text), "fault " + number + " at " + place);
    }

    static void isRead(String text, int statements) {
        same(shown(text), outcome(text), "read " + statements);
    }

    /** A text for a message; of a long one its beginning and its end. */
    static String shown(String text) {
        int n = text.length();
        return n <= 120 ? "<" + text + ">" : "<" + text.substring(0, 40) + " .. " + text.substring(n - 40) + "> of " + n + " bytes";
    }

    static void due(String call, long got, long want) {
        same(call, got, want);
    }

    static void finish() {
        System.out.println(made + " answers, " + wrong + " of them wrong");
        if (wrong != 0) {
            System.exit(1);
        }
    }

    /** Puts a text, a byte a character, behind the TEXT. */
    static void put(Counted x, String text) {
        byte[] bytes = text.getBytes(StandardCharsets.ISO_8859_1);
        for (int from = 0; from < bytes.length; from += 20) {
            int n = Math.min(20, bytes.length - from);
            int[] five = new int[5];
            for (int i = 0; i < n; i++) {
                five[i / 4] |= (bytes[from + i] & 255) << (24 - 8 * (i % 4));
            }
            x.feed(five[0], five[1], five[2], five[3], five[4]);
            x.end(n);
        }
    }

    /** What read() does with a text: how many STATEMENTS, or the FAULT and its PLACE. */
    static String outcome(Counted x, String text) {
        put(x, text);
        try {
            int n = x.read();
            return x.fault(0) == 0 && x.fault(1) == -1 ? "read " + n : "read, yet a fault";
        } catch (IllegalArgumentException e) {
            return "fault " + x.fault(0) + " at " + x.fault(1);
        }
    }

    static String outcome(String text) {
        return outcome(new Counted(), text);
    }

    /** A new object that has read a text. */
    static Counted reader(String text) {
        Counted x = new Counted();
        same("read of " + shown(text), outcome(x, text).startsWith("read "), true);
        return x;
    }

    static String told(Counted x, int k) {
        int n = x.tell(k);
        if (n < 0) {
            return "none";
        }
        StringBuilder b = new StringBuilder();
        for (int i = 0; i < n; i++) {
            b.append((char) x.letter(i));
        }
        due("letter behind OUT", x.letter(n), -1);
        return b.toString();
    }

    static String nameOf(Counted x, int k) {
        StringBuilder b = new StringBuilder();
        for (int c = x.name(k, 0); c != -1; c = x.name(k, b.length())) {
            b.append((char) c);
        }
        return b.toString();
    }

    static String stringOf(Counted x, int j) {
        StringBuilder b = new StringBuilder();
        for (int c = x.string(j, 0); c != -1; c = x.string(j, b.length())) {
            b.append((char) c);
        }
        return b.toString();
    }

    /** An operand's ITEMS, each as sort or sort:value. */
    static String itemsOf(Counted x, int j) {
        StringBuilder b = new StringBuilder();
        int first = x.operand(j, 3);
        for (int t = first; t < first + x.operand(j, 4); t++) {
            b.append(t == first ? "" : " ").append(x.item(t, 0));
            if (x.item(t, 0) < 3) {
                b.append(':').append(x.item(t, 1));
            } else {
                due("value of an item of sort " + x.item(t, 0), x.item(t, 1), 0);
            }
        }
        return b.toString();
    }

    static String many(String part, int times, String between) {
        StringBuilder b = new StringBuilder();
        for (int i = 0; i < times; i++) {
            b.append(i == 0 ? "" : between).append(part);
        }
        return b.toString();
    }
}
