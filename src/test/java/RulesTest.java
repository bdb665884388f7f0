import java.lang.reflect.Constructor;
import java.lang.reflect.Field;
import java.lang.reflect.Method;
import java.lang.reflect.Modifier;
import java.nio.file.Files;
import java.nio.file.Path;
import java.util.ArrayList;
import java.util.Arrays;
import java.util.List;
import java.util.TreeSet;
import java.util.regex.Matcher;
import java.util.regex.Pattern;

/** The face of the document, and what of LANGUAGE.md can be seen by looking at the file. */
public final class RulesTest {
    private static final String IAE = " throws IllegalArgumentException";
    private static final String BOTH = IAE + ", IllegalStateException";
    private static final String[] FACE = {
        "int node(int)" + BOTH, "int arc(int, int, int, int, int)" + BOTH, "int take(int)" + BOTH, "int set(int, int, int)" + BOTH,
        "int label(int, int)" + BOTH, "int view(int)" + IAE, "int version()", "int size(int)" + IAE, "long told(int, int)" + IAE,
        "int labelOf(int)" + IAE, "int arcAt(int, int, int)" + IAE, "int type(int)" + BOTH, "int wipe()", "int load()",
        "int fault(int)" + IAE, "int print()", "int printed(int)" + IAE, "long distance(int, int)" + IAE, "int way(int, int, int)" + IAE,
        "int width(int, int)" + IAE, "int shorts(int, int)" + IAE, "int shortArc(int, int, int, int)" + IAE, "int part(int, int)" + IAE,
        "boolean bridge(int)" + IAE, "boolean cut(int)" + IAE, "int order(int)" + IAE, "int core(int)" + IAE, "int clique(int)" + IAE,
        "int colour(int)" + IAE, "long flow(int, int)" + IAE, "boolean side(int, int, int)" + IAE, "long cost(int, int, int)" + IAE,
        "long pairing(int)" + IAE, "long tree(int)" + IAE, "boolean span(int)" + IAE, "int trees()", "long rank(int, int)" + IAE,
        "int shortest(int, int, int, int)" + IAE, "int group(int)" + IAE, "long gain()", "long figures(int)" + IAE, "int pattern()",
        "int fits(int, int)" + IAE, "int program()", "int run(int, int, int, long)" + IAE, "long state(int)" + IAE, "int letters(int)" + IAE,
    };

    public static void main(String[] args) throws Exception {
        face();
        classes();
        source(Files.readString(Path.of(args.length > 0 ? args[0] : ".", "src/main/java/GraphHouse.java")));
        Support.finish("RulesTest");
    }

    private static void face() {
        TreeSet<String> got = new TreeSet<>();
        for (Method m : GraphHouse.class.getDeclaredMethods()) {
            if (Modifier.isPublic(m.getModifiers())) {
                List<String> types = new ArrayList<>();
                for (Class<?> c : m.getParameterTypes()) {
                    types.add(c.getSimpleName());
                }
                List<String> thrown = new ArrayList<>();
                for (Class<?> c : m.getExceptionTypes()) {
                    thrown.add(c.getSimpleName());
                }
                got.add(m.getReturnType().getSimpleName() + " " + m.getName() + "(" + String.join(", ", types) + ")"
                    + (thrown.isEmpty() ? "" : " throws " + String.join(", ", thrown)));
            } else {
                Support.due("private method " + m, Modifier.isPrivate(m.getModifiers()), true);
            }
        }
        Support.due("the methods", got, new TreeSet<>(Arrays.asList(FACE)));
        TreeSet<String> fields = new TreeSet<>();
        for (Field f : GraphHouse.class.getDeclaredFields()) {
            if (!Modifier.isPrivate(f.getModifiers())) {
                fields.add(f.toString().replace("GraphHouse.", ""));
            }
        }
        String head = "public static final ";
        Support.due("the constants", fields, new TreeSet<>(Arrays.asList(head + "int NONE", head + "int MANY", head + "int FULL",
            head + "int WRONG", head + "long NO", head + "long FALLING")));
        Constructor<?>[] makers = GraphHouse.class.getDeclaredConstructors();
        Support.due("the constructor", makers.length + " " + makers[0], "1 public GraphHouse()");
        Support.due("final", Modifier.isFinal(GraphHouse.class.getModifiers()), true);
    }

    private static void classes() {
        TreeSet<String> names = new TreeSet<>();
        for (String line : FACE) {
            names.add(line.replaceAll(".* (\\w+)\\(.*", "$1"));
        }
        Class<?>[] inside = GraphHouse.class.getDeclaredClasses();
        Support.due("some twelve classes", inside.length <= 11, true);
        for (Class<?> c : inside) {
            Support.due(c + " is static", Modifier.isStatic(c.getModifiers()), true);
            int fields = 0;
            for (Field f : c.getDeclaredFields()) {
                fields += Modifier.isStatic(f.getModifiers()) ? 0 : 1;
                Support.due(f + " static ones are final", Modifier.isStatic(f.getModifiers()) && !Modifier.isFinal(f.getModifiers()), false);
            }
            Support.due(c + " some twenty fields: " + fields, fields <= 20, true);
            for (Method m : c.getDeclaredMethods()) {
                Support.due(m + " at most seven parameters", m.getParameterCount() <= 7, true);
                Support.due(m + " has a name of its own", names.contains(m.getName()), false);
            }
        }
    }

    private static void source(String text) {
        String bare = text.replaceAll("(?s)/\\*.*?\\*/", "").replaceAll("//[^\n]*", "").replaceAll("\"[^\"\n]*\"", "\"\"")
            .replaceAll("'[^']'", "' '");
        for (String word : new String[] {
            "->", "::", "\\btry\\b", "\\bcatch\\b", "\\bfinally\\b", "\\bsynchronized\\b", "\\bassert\\b", "\\binstanceof\\b", "\\bpackage\\b",
            "\\bvar\\b", "static \\{", "Exact\\b", "MAX_VALUE", "\\bdouble\\b", "\\bfloat\\b", "System\\.(?!arraycopy)", "\\bThread\\b",
            "\"\" \\+|\\+ \"\"", "while \\(true\\)", "for \\(;;\\)",
        }) {
            Support.due("no " + word, Pattern.compile(word).matcher(bare).find(), false);
        }
        Matcher imports = Pattern.compile("import ([^;]*);").matcher(bare);
        while (imports.find()) {
            Support.due("import", imports.group(1), "java.util.Arrays");
        }
        Matcher thrown = Pattern.compile("throw ([^;]*);").matcher(bare);
        int throwing = 0;
        while (thrown.find()) {
            throwing++;
            Support.due(thrown.group(1), thrown.group(1).matches("new Illegal(Argument|State)Exception\\(\\)"), true);
        }
        Support.due("two places throw", throwing, 2);
        Matcher calls = Pattern.compile("\\b(Math|Integer|Long|Arrays)\\.(\\w+)").matcher(bare);
        while (calls.find()) {
            Support.due(calls.group(), "max min abs bitCount floorDiv floorMod fill copyOf ".contains(calls.group(2) + " "), true);
        }
        lengths(text);
    }

    /** Methods are short; their heads stand at one or two steps in. */
    private static void lengths(String text) {
        String[] lines = text.split("\n");
        int begin = -1;
        String indent = "";
        for (int i = 0; i < lines.length; i++) {
            Support.due("line " + (i + 1) + " is not too long", lines[i].length() <= 140, true);
            Matcher head = Pattern.compile("^( {4}| {8})(?! )[\\w\\[\\] ]+\\([^=;]*\\{$").matcher(lines[i]);
            if (begin < 0 && head.find()) {
                begin = i;
                indent = head.group(1);
            } else if (begin >= 0 && lines[i].equals(indent + "}")) {
                Support.due("method at line " + (begin + 1) + " is short", i - begin < 60, true);
                begin = -1;
            }
        }
    }
}
