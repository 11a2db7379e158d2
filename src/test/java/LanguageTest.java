import java.lang.reflect.Array;
import java.lang.reflect.Field;
import java.lang.reflect.Method;
import java.lang.reflect.Modifier;
import java.nio.file.Files;
import java.nio.file.Path;
import java.util.ArrayList;
import java.util.Collections;
import java.util.IdentityHashMap;
import java.util.List;
import java.util.Set;
import java.util.regex.Matcher;
import java.util.regex.Pattern;

/** Rules of LANGUAGE.md that the source or the compiled class shows; what an object holds. */
public final class LanguageTest {
    private static final Path SOURCE = Path.of("src", "main", "java", "UnitText.java");
    private static final Set<Class<?>> CONSTANTS = Set.of(int.class, long.class, boolean.class, char.class, String.class,
        int[].class, long[].class, char[].class, byte[].class);

    private static List<Class<?>> classes() {
        List<Class<?>> all = new ArrayList<>(List.of(UnitText.class.getDeclaredClasses()));
        all.add(UnitText.class);
        return all;
    }

    /** Rules 1, 2, 5 and 11, as far as the compiled classes show them. */
    private static void membersOf(Class<?> c) {
        int modifiers = c.getModifiers();
        if (c != UnitText.class) {
            Checks.same(c + " is static", Modifier.isStatic(modifiers), true);
            Checks.same(c + " is public or protected", Modifier.isPublic(modifiers) || Modifier.isProtected(modifiers), false);
            Checks.due(c + " has classes inside", c.getDeclaredClasses().length, 0);
        }
        int fields = 0;
        for (Field f : c.getDeclaredFields()) {
            boolean constant = Modifier.isStatic(f.getModifiers());
            fields += constant ? 0 : 1;
            Checks.same(f + " is final, if static", !constant || Modifier.isFinal(f.getModifiers()), true);
            Checks.same(f + " is of a constant's type, if static", !constant || CONSTANTS.contains(f.getType()), true);
        }
        Checks.same(c + " has at most twenty fields: " + fields, fields <= 20, true);
        for (Method m : c.getDeclaredMethods()) {
            Checks.same(m + " has at most seven parameters", m.getParameterCount() <= 7, true);
            boolean onFace = c == UnitText.class && Modifier.isPublic(m.getModifiers());
            Checks.same(m + " bears a name of the face", isNameOfFace(m.getName()), onFace);
        }
    }

    private static boolean isNameOfFace(String name) {
        for (Method m : UnitText.class.getDeclaredMethods()) {
            if (Modifier.isPublic(m.getModifiers()) && m.getName().equals(name)) {
                return true;
            }
        }
        return false;
    }

    /** The source without comments, texts and characters, which say nothing of what the program does. */
    private static String bare(String source) {
        return source.replaceAll("(?s)/\\*.*?\\*/", "").replaceAll("//[^\n]*", "")
            .replaceAll("'(\\\\.|[^'\\\\])'", "LETTER").replaceAll("\"(\\\\.|[^\"\\\\\n])*\"", "TEXT");
    }

    /** Rules 2, 4, 5, 6, 10 and 13: what must not stand in the source at all. */
    private static void wordsOf(String bare) {
        String[] none = {"\\bimport\\b", "\\bpackage\\b", "\\bcatch\\b", "\\bfinally\\b", "\\bsynchronized\\b", "\\bassert\\b", "->", "::",
            "Exact\\b", "\\bstatic\\s*\\{", "\\bSystem\\b", "\\bThread\\b", "\\bObject\\b", "\\bhashCode\\b", "\\btoString\\b",
            "\\bdouble\\b", "\\bfloat\\b", "TEXT\\s*\\+", "\\+\\s*TEXT", "\\[\\]\\s*\\[\\]"};
        for (String word : none) {
            Checks.same(word + " in the source", Pattern.compile(word).matcher(bare).find(), false);
        }
        Matcher thrown = Pattern.compile("\\bthrow\\b(.*)").matcher(bare);
        while (thrown.find()) {
            Checks.same("thrown", thrown.group(1).trim(), "new IllegalArgumentException(TEXT);");
        }
    }

    /** Rule 11: methods stay short. A method ends with a brace that stands as far in as its first line. */
    private static void lengthsOf(String source) {
        Matcher m = Pattern.compile("(?m)^( {4}| {8})(?!.*\\bclass\\b)\\S.*\\) (?:throws \\w+ )?\\{\n((?:.*\n)*?)\\1\\}").matcher(source);
        int methods = 0;
        while (m.find()) {
            methods++;
            int lines = m.group(2).split("\n").length;
            Checks.same("lines of " + m.group().split("\n")[0].trim() + ": " + lines, lines <= 60, true);
        }
        Checks.same("methods found: " + methods, methods > 80, true);
    }

    /** How many objects and arrays, and how many fields and elements, are reached from an object. */
    private static int[] room(Object from) throws IllegalAccessException {
        Set<Object> seen = Collections.newSetFromMap(new IdentityHashMap<>());
        List<Object> open = new ArrayList<>(List.of(from));
        int cells = 0;
        while (!open.isEmpty()) {
            Object o = open.remove(open.size() - 1);
            if (!seen.add(o)) {
                continue;
            }
            if (o.getClass().isArray()) {
                cells += Array.getLength(o);
                continue;
            }
            for (Field f : o.getClass().getDeclaredFields()) {
                if (!Modifier.isStatic(f.getModifiers())) {
                    cells++;
                    f.setAccessible(true);
                    if (!f.getType().isPrimitive()) {
                        open.add(f.get(o));
                    }
                }
            }
        }
        return new int[] {seen.size(), cells};
    }

    /** Rule 12: what an object holds is made with it, and no call adds to it. */
    private static void roomOfCalls() throws IllegalAccessException {
        UnitText x = new UnitText();
        int[] before = room(x);
        Checks.same("objects and arrays: " + before[0], before[0] <= 100, true);
        Checks.same("fields and elements: " + before[1], before[1] <= 60000, true);
        for (int i = 0; i < 150; i++) {
            x.feed(0x7720312C, 0x22737472, 0x222C2861, 0x30292C2D, 0x620A313A);
            x.end(20);
        }
        x.read();
        x.tell(0);
        x.end(1);
        try {
            x.read();
        } catch (IllegalArgumentException e) {
            Checks.same("a FAULT", x.fault(0), 1);
        }
        int[] behind = room(x);
        Checks.due("objects and arrays behind calls", behind[0], before[0]);
        Checks.due("fields and elements behind calls", behind[1], before[1]);
    }

    /** Rule 8: how many calls stand open at most; all that nests is as deep as the document lets it be. */
    private static void openCalls() {
        String[] texts = {"w " + Checks.many("(", 20, "") + "1", "w " + Checks.many("-", 20, "") + "1",
            "w " + Checks.many("1|1^1&1<<1+1*(", 4, "") + Checks.many("(", 15, "") + "~1",
            "w " + Checks.many("1|1*-(", 9, "") + "1*-(1"};
        for (String text : texts) {
            Counted x = new Counted();
            Checks.put(x, text);
            int open = 0;
            try {
                x.read();
            } catch (IllegalArgumentException e) {
                for (StackTraceElement call : e.getStackTrace()) {
                    open += call.getClassName().startsWith("UnitText") ? 1 : 0;
                }
            }
            Checks.due(text + " is too deep", x.fault(0), 7);
            Checks.same(text + ": open calls: " + open, open > 20 && open < 300, true);
        }
    }

    public static void main(String[] args) throws Exception {
        Checks.same("at most twelve classes", classes().size() <= 12, true);
        for (Class<?> c : classes()) {
            membersOf(c);
        }
        String source = Files.readString(SOURCE);
        wordsOf(bare(source));
        lengthsOf(source);
        roomOfCalls();
        openCalls();
        Checks.finish();
    }
}
