import java.lang.reflect.Method;
import java.lang.reflect.Modifier;
import java.nio.file.Files;
import java.nio.file.Path;
import java.util.ArrayList;
import java.util.Arrays;
import java.util.List;
import java.util.regex.Matcher;
import java.util.regex.Pattern;

/** README.md must stay true: each call of its example answers what stands behind it, and its table has all calls. */
public final class ReadmeTest {
    private static final Pattern TEXT = Pattern.compile("\"([^\"]*)\"\\.toCharArray");
    private static final Pattern CALL = Pattern.compile("^map\\.(\\w+)\\(([-\\d, ]*)\\); +// (-?\\d+):");
    private static int checks;
    private static int wrong;

    public static void main(String[] args) throws Exception {
        List<String> lines = Files.readAllLines(Path.of("README.md"));
        example(lines);
        table(lines);
        System.out.println(checks + " checks, " + wrong + " wrong");
        if (wrong != 0 || checks < 50) {
            System.exit(1);
        }
    }

    private static void demand(boolean kept, String what) {
        checks++;
        if (!kept) {
            wrong++;
            System.out.println(what);
        }
    }

    private static void example(List<String> lines) throws ReflectiveOperationException {
        PartingMap map = new PartingMap();
        for (String line : lines) {
            Matcher text = TEXT.matcher(line);
            if (text.find()) {
                text.group(1).chars().forEach(map::type);
            }
            Matcher call = CALL.matcher(line);
            if (call.find()) {
                long got = answer(map, call.group(1), call.group(2));
                demand(got == Long.parseLong(call.group(3)), line + " answered " + got);
            }
        }
    }

    private static long answer(PartingMap map, String name, String numbers) throws ReflectiveOperationException {
        List<Object> values = new ArrayList<>();
        for (String number : numbers.isBlank() ? new String[0] : numbers.split(", *")) {
            values.add(Integer.parseInt(number));
        }
        Class<?>[] types = new Class<?>[values.size()];
        Arrays.fill(types, int.class);
        Object got = PartingMap.class.getMethod(name, types).invoke(map, values.toArray());
        return ((Number) got).longValue();
    }

    private static void table(List<String> lines) {
        List<String> told = new ArrayList<>();
        for (String line : lines) {
            Matcher name = Pattern.compile("`(\\w+)`").matcher(line.startsWith("|") ? line : "");
            while (name.find()) {
                told.add(name.group(1));
            }
        }
        int open = 0;
        for (Method m : PartingMap.class.getDeclaredMethods()) {
            if (Modifier.isPublic(m.getModifiers())) {
                open++;
                demand(told.contains(m.getName()), "the table lacks " + m.getName());
            }
        }
        demand(told.size() == open, "the table has " + told.size() + " calls, the face " + open);
    }
}
