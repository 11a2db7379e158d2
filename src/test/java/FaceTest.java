import java.lang.reflect.Constructor;
import java.lang.reflect.Field;
import java.lang.reflect.Method;
import java.lang.reflect.Modifier;
import java.util.Arrays;
import java.util.TreeSet;

/** The class has the document's public face, and beside it nothing that is not private. */
public final class FaceTest {
    private static final String FACE = "feed(int,int,int,int,int)void end(int)int read()int fault(int)int count(int)int "
        + "statement(int,int)int operand(int,int)int constant(int)long item(int,int)int name(int,int)int "
        + "string(int,int)int find(long,long)int tell(int)int letter(int)int";

    private static String signature(Method m) {
        StringBuilder b = new StringBuilder(m.getName()).append('(');
        for (Class<?> c : m.getParameterTypes()) {
            b.append(b.charAt(b.length() - 1) == '(' ? "" : ",").append(c.getName());
        }
        return b.append(')').append(m.getReturnType().getName()).toString();
    }

    public static void main(String[] args) {
        Class<?> face = UnitText.class;
        Checks.same("the class", Modifier.toString(face.getModifiers()), "public final");
        TreeSet<String> methods = new TreeSet<>();
        for (Method m : face.getDeclaredMethods()) {
            if (!Modifier.isPrivate(m.getModifiers())) {
                methods.add(signature(m));
                Checks.same(m.getName(), Modifier.toString(m.getModifiers()), "public");
            }
        }
        Checks.same("the methods", methods, new TreeSet<>(Arrays.asList(FACE.split(" "))));
        TreeSet<String> fields = new TreeSet<>();
        for (Field f : face.getDeclaredFields()) {
            if (!Modifier.isPrivate(f.getModifiers())) {
                fields.add(f.getName() + " " + f.getType());
                Checks.same(f.getName(), Modifier.toString(f.getModifiers()), "public static final");
            }
        }
        Checks.same("the constants", fields, new TreeSet<>(Arrays.asList("NONE int", "NOTHING long")));
        for (Method m : face.getDeclaredMethods()) {
            String thrown = m.getName().equals("read") ? "[" + IllegalArgumentException.class + "]" : "[]";
            Checks.same(m.getName() + " says that it throws", Arrays.toString(m.getExceptionTypes()), thrown);
        }
        for (Constructor<?> c : face.getDeclaredConstructors()) {
            Checks.same("the constructor", c.toString(), "public UnitText()");
        }
        Checks.finish();
    }
}
