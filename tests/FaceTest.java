import java.io.IOException;
import java.lang.reflect.Constructor;
import java.lang.reflect.Field;
import java.lang.reflect.Method;
import java.lang.reflect.Modifier;
import java.nio.file.Files;
import java.nio.file.Path;
import java.util.Arrays;
import java.util.List;
import java.util.TreeSet;
import java.util.regex.Matcher;
import java.util.regex.Pattern;

/** The public face, and the rules of LANGUAGE.md that can be looked for in the text. */
public final class FaceTest {
    private static final List<String> FACE = List.of("int method(int,int)", "int write(int,int,int)", "int look(int)",
            "int fault()", "int keep(int,int)", "int field(int)", "int lose(int)", "int size(int)",
            "int item(int,int)", "int run(int,int,int,int)", "int answer()", "int trap(int)", "int of(int,int)",
            "int part(int,int,int)", "int varies(int,int)", "int depth(int,int)", "int count(int)", "long digest()");

    public static void main(String[] args) throws IOException {
        face();
        nested();
        text(Files.readString(Path.of("src/main/java/TemplateForge.java")));
        Due.end();
    }

    private static void face() {
        Class<?> c = TemplateForge.class;
        Due.due("public final class", c.getModifiers(), Modifier.PUBLIC | Modifier.FINAL);
        Due.due("NONE", TemplateForge.NONE, -1);
        Due.due("BAD", TemplateForge.BAD, -2);
        Due.due("STATE", TemplateForge.STATE, -3);
        Due.due("FULL", TemplateForge.FULL, -4);
        TreeSet<String> methods = new TreeSet<>();
        for (Method m : c.getDeclaredMethods()) {
            if (m.isSynthetic()) {
                continue;
            }
            if (!Modifier.isPrivate(m.getModifiers())) {
                Due.due("is public: " + m, m.getModifiers(), Modifier.PUBLIC);
                String types = Arrays.toString(m.getParameterTypes()).replaceAll("[\\[\\] ]", "");
                methods.add(m.getReturnType() + " " + m.getName() + "(" + types + ")");
            }
        }
        Due.due("methods of the face: " + methods, methods.equals(new TreeSet<>(FACE)) ? 1 : 0, 1);
        TreeSet<String> fields = new TreeSet<>();
        for (Field f : c.getDeclaredFields()) {
            if (!Modifier.isPrivate(f.getModifiers())) {
                fields.add(f.getName());
            }
        }
        Due.due("fields of the face: " + fields, fields.equals(new TreeSet<>(List.of("NONE", "BAD", "STATE", "FULL")))
                ? 1 : 0, 1);
        Constructor<?>[] made = c.getDeclaredConstructors();
        Due.due("constructors", made.length, 1);
        Due.due("constructor is public", made[0].getModifiers(), Modifier.PUBLIC);
        Due.due("constructor's parameters", made[0].getParameterCount(), 0);
    }

    private static void nested() {
        Class<?>[] all = TemplateForge.class.getDeclaredClasses();
        Due.due("classes in all, 12 at most", Math.max(all.length + 1, 12), 12);
        for (Class<?> c : all) {
            Due.due("static and not public: " + c, c.getModifiers() & (Modifier.STATIC | Modifier.PUBLIC
                    | Modifier.PROTECTED), Modifier.STATIC);
            int fields = 0;
            for (Field f : c.getDeclaredFields()) {
                boolean isStatic = Modifier.isStatic(f.getModifiers());
                Due.due("static and not final: " + f, isStatic && !Modifier.isFinal(f.getModifiers()) ? 1 : 0, 0);
                fields += isStatic ? 0 : 1;
            }
            Due.due("fields, 20 at most: " + c, Math.max(fields, 20), 20);
            for (Method m : c.getDeclaredMethods()) {
                Due.due("parameters, 7 at most: " + m, Math.max(m.getParameterCount(), 7), 7);
                boolean isOfFace = FACE.stream().anyMatch(f -> f.contains(" " + m.getName() + "("));
                Due.due("a name of the face: " + m, isOfFace ? 1 : 0, 0);
            }
        }
    }

    private static void text(String whole) {
        Due.due("signs are 1 to 127", whole.chars().allMatch(c -> c > 0 && c < 128) ? 1 : 0, 1);
        String code = whole.replaceAll("(?s)/\\*.*?\\*/", "").replaceAll("//[^\n]*", "");
        String[] forbidden = {"throw", "throws", "try", "catch", "finally", "synchronized", "assert", "package",
            "instanceof", "Object", "System.out", "Random", "Thread", "MAX_VALUE", "MIN_VALUE", "Exact", "hashCode",
            "equals", "toString", "->", "::", "static \\{", "while \\(true\\)", "for \\(;"};
        for (String f : forbidden) {
            boolean isWord = Character.isLetter(f.charAt(f.length() - 1));
            Matcher m = Pattern.compile(isWord ? "\\b" + f + "\\b" : f).matcher(code);
            Due.due("forbidden: " + f, m.find() ? 1 : 0, 0);
        }
        Matcher imports = Pattern.compile("import ([^;]+);").matcher(code);
        while (imports.find()) {
            Due.due("import of " + imports.group(1), imports.group(1).equals("java.util.Arrays") ? 1 : 0, 1);
        }
        Matcher library = Pattern.compile("\\b(Arrays|Math|System|Integer|Long)\\.(\\w+)").matcher(code);
        TreeSet<String> allowed = new TreeSet<>(List.of("Arrays.copyOf", "Arrays.fill", "Math.max", "Math.min"));
        while (library.find()) {
            String used = library.group();
            boolean isImport = code.startsWith("java.util.", Math.max(0, library.start() - 10));
            Due.due("library: " + used, isImport || allowed.contains(used) ? 1 : 0, 1);
        }
        lengths(whole.split("\n"));
    }

    /** Methods begin at their brace, indented by four or eight, and end at the brace so indented. */
    private static void lengths(String[] lines) {
        for (int k = 0; k < lines.length; k++) {
            boolean isHead = lines[k].matches("( {4}| {8})[A-Za-z].*\\) \\{");
            if (!isHead) {
                continue;
            }
            String end = lines[k].substring(0, lines[k].length() - lines[k].stripLeading().length()) + "}";
            int length = 1;
            while (!lines[k + length].equals(end)) {
                length++;
            }
            Due.due("lines, 60 at most: " + lines[k].strip(), Math.max(length, 60), 60);
        }
    }
}
