import java.io.IOException;
import java.lang.reflect.Method;
import java.nio.file.Files;
import java.nio.file.Path;
import java.util.HashMap;
import java.util.Map;
import java.util.regex.Matcher;
import java.util.regex.Pattern;

/** README.md's examples answer what stands behind them, and its table has every call of the class. */
public final class ReadmeTest {
    private static final Pattern NEW = Pattern.compile("TemplateForge f = new TemplateForge\\(\\);");
    private static final Pattern CALL =
            Pattern.compile("(?:int (\\w+) = )?f\\.(\\w+)\\(([^)]*)\\);\\s*// (-?\\d+)(?:$|:.*)");

    public static void main(String[] args) throws IOException, ReflectiveOperationException {
        String text = Files.readString(Path.of("README.md"));
        Due.about("README.md");
        int examples = 0;
        TemplateForge f = null;
        Map<String, Integer> named = new HashMap<>();
        Matcher block = Pattern.compile("(?s)```java\n(.*?)```").matcher(text);
        while (block.find()) {
            examples++;
            for (String line : block.group(1).split("\n")) {
                if (NEW.matcher(line).matches()) {
                    f = new TemplateForge();
                } else {
                    call(f, named, line);
                }
            }
        }
        Due.due("examples in README.md, some", Math.min(examples, 1), 1);
        for (Method m : TemplateForge.class.getDeclaredMethods()) {
            if (java.lang.reflect.Modifier.isPublic(m.getModifiers())) {
                boolean isTold = Pattern.compile("\n\\|[^|]*`" + m.getName() + "\\(").matcher(text).find();
                Due.due("the table tells of " + m.getName(), isTold ? 1 : 0, 1);
            }
        }
        Due.end();
    }

    private static void call(TemplateForge f, Map<String, Integer> named, String line)
            throws ReflectiveOperationException {
        Matcher call = CALL.matcher(line);
        boolean isCall = call.matches();
        Due.due("a call and its answer: " + line, isCall && f != null ? 1 : 0, 1);
        if (!isCall || f == null) {
            return;
        }
        String[] told = call.group(3).isEmpty() ? new String[0] : call.group(3).split(", ");
        Class<?>[] types = new Class<?>[told.length];
        Object[] with = new Object[told.length];
        for (int k = 0; k < told.length; k++) {
            types[k] = int.class;
            with[k] = named.containsKey(told[k]) ? named.get(told[k]) : Integer.valueOf(told[k]);
        }
        Number got = (Number) TemplateForge.class.getMethod(call.group(2), types).invoke(f, with);
        Due.due(line, got.longValue(), Long.parseLong(call.group(4)));
        if (call.group(1) != null) {
            named.put(call.group(1), got.intValue());
        }
    }
}
