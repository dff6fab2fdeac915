import java.lang.reflect.Constructor;
import java.lang.reflect.Field;
import java.lang.reflect.Method;
import java.lang.reflect.Modifier;
import java.util.Arrays;
import java.util.List;
import java.util.TreeSet;

/** The public face: its constants, its constructor, its methods, and nothing else. */
public final class FaceTest {
    private static final List<String> FACE = List.of("int method(int,int)", "int write(int,int,int)", "int look(int)",
            "int fault()", "int keep(int,int)", "int field(int)", "int lose(int)", "int size(int)",
            "int item(int,int)", "int run(int,int,int,int)", "int answer()", "int trap(int)", "int of(int,int)",
            "int part(int,int,int)", "int varies(int,int)", "int depth(int,int)", "int count(int)", "long digest()");

    public static void main(String[] args) {
        face();
        Due.end();
    }

    private static void face() {
        Class<?> c = TemplateForge.class;
        Due.due("public final class", c.getModifiers(), Modifier.PUBLIC | Modifier.FINAL);
        Due.due("NONE", TemplateForge.NONE, -1);
        Due.due("BAD", TemplateForge.BAD, -2);
        Due.due("STATE", TemplateForge.STATE, -3);
        Due.due("FULL", TemplateForge.FULL, -4);
        TreeSet<String> methods = new TreeSet<>();
        for (Method m : c.getDeclaredMethods()) {
            if (m.isSynthetic()) {
                continue;
            }
            if (!Modifier.isPrivate(m.getModifiers())) {
                Due.due("is public: " + m, m.getModifiers(), Modifier.PUBLIC);
                String types = Arrays.toString(m.getParameterTypes()).replaceAll("[\\[\\] ]", "");
                methods.add(m.getReturnType() + " " + m.getName() + "(" + types + ")");
            }
        }
        Due.due("methods of the face: " + methods, methods.equals(new TreeSet<>(FACE)) ? 1 : 0, 1);
        TreeSet<String> fields = new TreeSet<>();
        for (Field f : c.getDeclaredFields()) {
            if (!Modifier.isPrivate(f.getModifiers())) {
                fields.add(f.getName());
            }
        }
        Due.due("fields of the face: " + fields, fields.equals(new TreeSet<>(List.of("NONE", "BAD", "STATE", "FULL")))
                ? 1 : 0, 1);
        Constructor<?>[] made = c.getDeclaredConstructors();
        Due.due("constructors", made.length, 1);
        Due.due("constructor is public", made[0].getModifiers(), Modifier.PUBLIC);
        Due.due("constructor's parameters", made[0].getParameterCount(), 0);
    }
}
