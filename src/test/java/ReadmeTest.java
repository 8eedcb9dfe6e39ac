import java.lang.reflect.Method;
import java.lang.reflect.Modifier;
import java.nio.file.Files;
import java.nio.file.Path;
import java.util.List;
import java.util.Set;
import java.util.TreeSet;
import java.util.regex.Matcher;
import java.util.regex.Pattern;
import java.util.stream.Stream;

/** What README.md says of how to use the class and how to run its tests is so. */
public final class ReadmeTest {
    private static final Pattern EXAMPLE = Pattern.compile("```java\n(.*?)```", Pattern.DOTALL);
    private static final Pattern CALL =
            Pattern.compile("x\\.(\\w+)\\(((?:-?\\d+|true|false|, )*)\\);\\s+// (-?\\d+).*");
    private static final Pattern FEED =
            Pattern.compile("for \\(char sign : \"(.*)\"\\.toCharArray\\(\\)\\) x\\.feed\\(sign\\);");
    private static final Pattern ROW = Pattern.compile("\\| `(\\w+)\\(([^)]*)\\)` \\| .+ \\|");
    private static int wrong = 0;

    private static void due(boolean holds, String what) {
        if (!holds) {
            wrong++;
            System.out.println("README.md: not so: " + what);
        }
    }

    public static void main(String[] args) throws Exception {
        String page = Files.readString(Path.of("README.md"));
        Matcher example = EXAMPLE.matcher(page);
        due(example.find(), "there is an example");
        int calls = wrong == 0 ? run(example.group(1).split("\n")) : 0;
        due(calls > 0, "the example has calls with answers");
        callsAreTold(page.split("\n"));
        testsAreTold(page);
        System.out.println(calls + " calls of README.md were made, " + wrong + " things are not as due");
        if (wrong != 0) {
            System.exit(1);
        }
    }

    /** Each row that is neither empty nor a comment is a call with its answer, or feeds a text. */
    private static int run(String[] rows) throws Exception {
        LastPenny x = new LastPenny();
        int calls = 0;
        for (String row : rows) {
            Matcher call = CALL.matcher(row);
            Matcher feed = FEED.matcher(row);
            if (call.matches()) {
                long got = answer(x, call.group(1), parts(call.group(2)));
                due(got == Long.parseLong(call.group(3)), row + " answered " + got);
                calls++;
            } else if (feed.matches()) {
                feed.group(1).chars().forEach(x::feed);
            } else {
                due(row.isEmpty() || row.startsWith("//") || row.equals("LastPenny x = new LastPenny();"),
                        "a row that can be run: " + row);
            }
        }
        return calls;
    }

    private static String[] parts(String list) {
        return list.isEmpty() ? new String[0] : list.split(", ");
    }

    private static long answer(LastPenny x, String name, String[] texts) throws Exception {
        for (Method m : LastPenny.class.getMethods()) {
            if (m.getName().equals(name) && m.getParameterCount() == texts.length) {
                Object[] with = new Object[texts.length];
                for (int i = 0; i < texts.length; i++) {
                    boolean isTruth = m.getParameterTypes()[i] == boolean.class;
                    with[i] = isTruth ? (Object) Boolean.valueOf(texts[i]) : (Object) Integer.valueOf(texts[i]);
                }
                return ((Number) m.invoke(x, with)).longValue();
            }
        }
        due(false, "there is a call " + name + " with " + texts.length + " arguments");
        return 0;
    }

    private static void callsAreTold(String[] lines) {
        Set<String> told = new TreeSet<>();
        for (String line : lines) {
            Matcher row = ROW.matcher(line);
            if (row.matches()) {
                told.add(row.group(1) + " " + parts(row.group(2)).length);
            }
        }
        Set<String> face = new TreeSet<>();
        for (Method m : LastPenny.class.getDeclaredMethods()) {
            if (Modifier.isPublic(m.getModifiers())) {
                face.add(m.getName() + " " + m.getParameterCount());
            }
        }
        due(told.equals(face), "the calls that are told, " + told + ", are those of the face, " + face);
    }

    private static void testsAreTold(String page) throws Exception {
        due(page.contains(".ci/run"), "it says how the tests are run");
        try (Stream<Path> tests = Files.list(Path.of("src/test/java"))) {
            List<String> names = tests.map(p -> p.getFileName().toString().replace(".java", "")).toList();
            for (String name : names) {
                due(page.contains("- `" + name + "`: "), "it tells of " + name);
            }
        }
    }
}
