import java.lang.reflect.Constructor;
import java.lang.reflect.Field;
import java.lang.reflect.Method;
import java.lang.reflect.Modifier;
import java.nio.file.Files;
import java.nio.file.Path;
import java.util.ArrayList;
import java.util.Arrays;
import java.util.List;
import java.util.Set;
import java.util.TreeSet;
import java.util.regex.Matcher;
import java.util.regex.Pattern;

/** Holds the source and the compiled class against those rules of LANGUAGE.md that a simple look can tell. */
public final class LanguageTest {
    private static int wrong;

    public static void main(String[] args) throws Exception {
        face(Files.readString(Path.of("../shared/DOC.md")));
        nested();
        source(Files.readString(Path.of("src/main/java/PartingMap.java")));
        System.out.println(wrong == 0 ? "the rules looked at are kept" : wrong + " rules are broken");
        if (wrong != 0) {
            System.exit(1);
        }
    }

    private static void demand(boolean kept, String rule) {
        if (!kept) {
            wrong++;
            System.out.println("broken: " + rule);
        }
    }

    private static void face(String document) {
        Set<String> found = new TreeSet<>();
        Set<String> open = new TreeSet<>();
        for (Method m : PartingMap.class.getDeclaredMethods()) {
            if (Modifier.isPublic(m.getModifiers())) {
                demand(!Modifier.isStatic(m.getModifiers()) && m.getExceptionTypes().length == 0, "1, a call: " + m);
                found.add(m.getReturnType() + " " + m.getName() + Arrays.toString(m.getParameterTypes()));
                open.add(m.getName());
            } else {
                demand(Modifier.isPrivate(m.getModifiers()), "1, private: " + m);
            }
        }
        demand(found.equals(callsOf(document)), "1, the face: " + found);
        for (Class<?> c : all()) {
            for (Method m : c.getDeclaredMethods()) {
                demand(c == PartingMap.class && Modifier.isPublic(m.getModifiers()) || !open.contains(m.getName()),
                        "1, a public name: " + m);
                demand(m.getParameterCount() <= 7, "11, parameters: " + m);
            }
        }
        Constructor<?>[] makers = PartingMap.class.getDeclaredConstructors();
        demand(makers.length == 1 && Modifier.isPublic(makers[0].getModifiers())
                && makers[0].getParameterCount() == 0, "1, the constructor");
        demand(Modifier.isFinal(PartingMap.class.getModifiers()), "1, final");
        constants();
    }

    /** The calls of the document's face, each written as reflection writes it. */
    private static Set<String> callsOf(String document) {
        Set<String> calls = new TreeSet<>();
        Matcher call = Pattern.compile("(?m)^    public (\\w+) (\\w+)\\(([^)]*)\\);$").matcher(document);
        while (call.find()) {
            String types = call.group(3).replaceAll("(\\w+) \\w+", "$1");
            calls.add(call.group(1) + " " + call.group(2) + "[" + types + "]");
        }
        demand(calls.size() == 35, "the document's face has " + calls.size() + " calls");
        return calls;
    }

    private static void constants() {
        List<String> names = List.of("NONE", "BAD", "NOT", "FULL");
        demand(PartingMap.NONE == -1 && PartingMap.BAD == -2 && PartingMap.NOT == -3 && PartingMap.FULL == -4,
                "1, the constants");
        for (Field f : PartingMap.class.getDeclaredFields()) {
            boolean constant = names.contains(f.getName());
            demand(constant ? Modifier.isPublic(f.getModifiers()) && f.getType() == int.class
                    : Modifier.isPrivate(f.getModifiers()), "1, fields: " + f);
        }
    }

    private static List<Class<?>> all() {
        List<Class<?>> classes = new ArrayList<>(Arrays.asList(PartingMap.class.getDeclaredClasses()));
        classes.add(PartingMap.class);
        return classes;
    }

    private static void nested() {
        demand(all().size() <= 12, "11, classes");
        for (Class<?> c : all()) {
            int own = 0;
            for (Field f : c.getDeclaredFields()) {
                boolean isStatic = Modifier.isStatic(f.getModifiers());
                demand(!isStatic || Modifier.isFinal(f.getModifiers()), "5, static state: " + f);
                own += isStatic ? 0 : 1;
            }
            demand(own <= 20, "11, fields of " + c);
            demand(c == PartingMap.class || Modifier.isStatic(c.getModifiers()), "2, inner class " + c);
        }
    }

    private static void source(String whole) {
        String code = whole.replaceAll("(?s)/\\*.*?\\*/", "").replaceAll("//[^\n]*", "")
                .replaceAll("'[^']*'", "0").replaceAll("\"[^\"]*\"", "0");
        for (String word : new String[] {"throw", "throws", "try", "catch", "synchronized", "assert", "package", "var",
            "equals", "hashCode", "toString", "protected", "volatile", "transient", "native"}) {
            demand(!Pattern.compile("\\b" + word + "\\b").matcher(code).find(), "6, the word " + word);
        }
        demand(!code.contains("->") && !code.contains("::"), "2, lambdas");
        Matcher imports = Pattern.compile("import ([^;]*);").matcher(code);
        while (imports.find()) {
            demand(List.of("java.util.Arrays", "java.util.ArrayList", "java.util.List").contains(imports.group(1)),
                    "4, import " + imports.group(1));
        }
        Matcher library = Pattern.compile("\\b(Arrays|System|Math|Integer|Long)\\.(\\w+)").matcher(code);
        while (library.find()) {
            demand(List.of("Arrays.fill", "System.arraycopy", "Math.min", "Math.max", "Math.abs", "Integer.bitCount")
                    .contains(library.group()), "4, the library: " + library.group());
        }
        // Rows are made once: a call that made any would fill the room of a long run.
        demand(!Pattern.compile("^ {8,}[^=\n]*= new |return new ", Pattern.MULTILINE)
                .matcher(code.replaceAll("(?m)^ *final .*$", "").replace("rows[s] = new Row();", "")).find(),
                "12, an object made by a call");
        methods(code.split("\n"));
    }

    private static void methods(String[] lines) {
        int start = -1;
        for (int i = 0; i < lines.length; i++) {
            if (lines[i].matches(" {4}(?: {4})?\\w.*\\) \\{") && !lines[i].contains("class ")) {
                start = i;
            }
            if (start >= 0 && lines[i].matches(" {4}(?: {4})?\\}")
                    && lines[i].indexOf('}') == lines[start].length() - lines[start].stripLeading().length()) {
                demand(i - start < 60, "11, long method: " + lines[start].strip());
                start = -1;
            }
        }
    }
}
