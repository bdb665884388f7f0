import java.lang.reflect.InvocationTargetException;
import java.lang.reflect.Method;
import java.nio.file.Files;
import java.nio.file.Path;
import java.util.HashMap;
import java.util.Map;
import java.util.regex.Matcher;
import java.util.regex.Pattern;

/** The examples of README.md, called one behind the other: each answers what is written behind it. */
public final class ReadmeTest {
    private static final Pattern CALL = Pattern.compile("(?:int (\\w+) = )?house\\.(\\w+)\\((.*)\\);\\s*// (throws \\w+|-?\\w+).*");
    private static final Pattern WRITE = Pattern.compile("write\\(\"(.*)\"\\);");

    private static GraphHouse house;
    private static final Map<String, Long> NAMES = new HashMap<>();

    public static void main(String[] args) throws Exception {
        String text = Files.readString(Path.of(args.length > 0 ? args[0] : ".", "README.md"));
        constants();
        int calls = 0;
        Matcher blocks = Pattern.compile("(?s)```java\n(.*?)```").matcher(text);
        while (blocks.find()) {
            for (String line : blocks.group(1).split("\n")) {
                example(line);
                calls++;
            }
        }
        Support.due("examples", calls > 40, true);
        Support.due("how to run the tests", text.contains(".ci/run"), true);
        Support.finish("ReadmeTest");
    }

    private static void constants() throws Exception {
        for (String name : new String[] {"NONE", "MANY", "FULL", "WRONG", "NO", "FALLING"}) {
            long value = ((Number) GraphHouse.class.getField(name).get(null)).longValue();
            NAMES.put(name, value);
            NAMES.put("GraphHouse." + name, value);
        }
    }

    private static void example(String line) throws Exception {
        Matcher call = CALL.matcher(line);
        Matcher write = WRITE.matcher(line);
        if (line.equals("GraphHouse house = new GraphHouse();")) {
            house = new GraphHouse();
        } else if (write.matches()) {
            Support.retype(house, write.group(1));
        } else if (call.matches()) {
            String got = answer(call.group(2), call.group(3));
            String want = call.group(4);
            Support.due(line, got, NAMES.containsKey(want) ? String.valueOf(NAMES.get(want)) : want);
            if (call.group(1) != null) {
                NAMES.put(call.group(1), Long.parseLong(got));
            }
        } else {
            Support.due(line, "no example", "one");
        }
    }

    private static String answer(String name, String given) throws Exception {
        String[] words = given.isEmpty() ? new String[0] : given.split(", ");
        for (Method m : GraphHouse.class.getMethods()) {
            if (m.getName().equals(name) && m.getParameterCount() == words.length) {
                Object[] values = new Object[words.length];
                for (int i = 0; i < words.length; i++) {
                    long v = NAMES.containsKey(words[i]) ? NAMES.get(words[i]) : Long.parseLong(words[i]);
                    values[i] = m.getParameterTypes()[i] == long.class ? (Object) v : (Object) (int) v;
                }
                try {
                    return String.valueOf(m.invoke(house, values));
                } catch (InvocationTargetException e) {
                    return "throws " + e.getCause().getClass().getSimpleName();
                }
            }
        }
        return "no such call";
    }
}
