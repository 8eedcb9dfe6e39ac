import java.lang.management.ManagementFactory;
import java.lang.reflect.Constructor;
import java.lang.reflect.Field;
import java.lang.reflect.Method;
import java.lang.reflect.Modifier;
import java.nio.file.Files;
import java.nio.file.Path;
import java.util.Arrays;
import java.util.Set;
import java.util.TreeSet;
import java.util.regex.Matcher;
import java.util.regex.Pattern;

/** The face of the class, those rules of LANGUAGE.md that a look at the text or at the class can tell, and the room. */
public final class FaceAndLanguageTest {
    private static final String[] FACE = {
        "int feed(int)", "int table()", "int day(int)", "int told(int)", "int player(int,int,int,int)",
        "int of(int,int)", "int purse(int,int)", "int row(int,int,int)", "int play(int,boolean)",
        "long within(int,int,int,int)", "long lasts(int,int,int)", "long mean(int,int,int)", "long ever(int,int)",
        "int best(int,int)", "long bestChance(int,int,int)", "long loses(int,int,int)", "int room(int,int)",
        "long trio(int,int,int,int)", "long streak(int,int,int,int)", "int toss(boolean)", "int clear()",
        "int by(int,int)", "int seen(int)", "int act(int,int,int)", "int trace(int)", "int as(int,int)", "int image()",
        "int undo()", "int count(int)"};
    private static final String[] CONSTANTS = {"NONE", "BAD", "STATE", "FULL", "NO"};
    /** What no line of the class may hold, outside of its comments and texts. */
    private static final String[] FORBIDDEN = {"\\bthrow\\b", "\\bthrows\\b", "\\btry\\b", "\\bcatch\\b",
        "\\bsynchronized\\b", "\\bassert\\b", "->", "::", "\\bpackage\\b", "\\w+Exact\\b", "\\bThread\\b",
        "\\bRandom\\b", "\\bString\\.format\\b", "\\bSystem\\.(?!arraycopy)", "\\bhashCode\\b", "\\btoString\\b",
        "import (?!java\\.util\\.(Arrays|ArrayList|List);)"};
    private static final int MOST_LINES = 60, MOST_CLASSES = 12, MOST_FIELDS = 20, MOST_PARAMETERS = 7;
    private static int wrong = 0;

    private static void due(boolean holds, String what) {
        if (!holds) {
            wrong++;
            System.out.println("not so: " + what);
        }
    }

    public static void main(String[] args) throws Exception {
        face();
        insides();
        text(Files.readString(Path.of("src/main/java/LastPenny.java")));
        room();
        System.out.println(wrong == 0 ? "face, language and room are as due" : wrong + " not as due");
        if (wrong != 0) {
            System.exit(1);
        }
    }

    private static String name(Method m) {
        StringBuilder text = new StringBuilder(m.getReturnType() + " " + m.getName() + "(");
        for (Class<?> type : m.getParameterTypes()) {
            text.append(text.charAt(text.length() - 1) == '(' ? "" : ",").append(type);
        }
        return text.append(')').toString();
    }

    private static void face() {
        Class<?> c = LastPenny.class;
        due(Modifier.isPublic(c.getModifiers()) && Modifier.isFinal(c.getModifiers()), "the class is public and final");
        Set<String> shown = new TreeSet<>();
        Set<String> publicNames = new TreeSet<>();
        for (Method m : c.getDeclaredMethods()) {
            if (!Modifier.isPrivate(m.getModifiers())) {
                shown.add(name(m));
                publicNames.add(m.getName());
                due(Modifier.isPublic(m.getModifiers()) && !Modifier.isStatic(m.getModifiers()), "public: " + m);
            }
        }
        due(shown.equals(new TreeSet<>(Arrays.asList(FACE))), "the methods are those of the face: " + shown);
        for (Method m : c.getDeclaredMethods()) {
            due(!Modifier.isPrivate(m.getModifiers()) || !publicNames.contains(m.getName()), "a name of its own: " + m);
        }
        Set<String> fields = new TreeSet<>();
        for (Field f : c.getDeclaredFields()) {
            if (!Modifier.isPrivate(f.getModifiers())) {
                fields.add(f.getName());
            }
        }
        due(fields.equals(new TreeSet<>(Arrays.asList(CONSTANTS))), "the constants are those of the face: " + fields);
        Constructor<?>[] made = c.getDeclaredConstructors();
        due(made.length == 1 && made[0].getParameterCount() == 0 && Modifier.isPublic(made[0].getModifiers()),
                "one public constructor");
    }

    private static void insides() {
        Class<?>[] inside = LastPenny.class.getDeclaredClasses();
        due(inside.length + 1 <= MOST_CLASSES, "at most twelve classes");
        for (Class<?> c : inside) {
            due(Modifier.isStatic(c.getModifiers()), "static: " + c);
            due(!Modifier.isPublic(c.getModifiers()) && !Modifier.isProtected(c.getModifiers()), "not shown: " + c);
            fieldsOf(c);
        }
        fieldsOf(LastPenny.class);
    }

    private static void fieldsOf(Class<?> c) {
        int own = 0;
        for (Field f : c.getDeclaredFields()) {
            boolean isStatic = Modifier.isStatic(f.getModifiers());
            due(!isStatic || Modifier.isFinal(f.getModifiers()), "static fields are final: " + f);
            own += isStatic ? 0 : 1;
        }
        due(own <= MOST_FIELDS, "at most twenty fields in " + c);
        for (Method m : c.getDeclaredMethods()) {
            due(m.getParameterCount() <= MOST_PARAMETERS, "at most seven parameters: " + m);
        }
    }

    private static void text(String text) {
        String code = text.replaceAll("(?s)/\\*.*?\\*/", "").replaceAll("//[^\n]*", "").replaceAll("\"[^\"\n]*\"", "\"\"");
        for (String forbidden : FORBIDDEN) {
            Matcher m = Pattern.compile(forbidden).matcher(code);
            due(!m.find(), "the class does without " + forbidden);
        }
        due(text.chars().allMatch(c -> c < 128), "the text is plain");
        int begin = -1;
        String[] lines = text.split("\n");
        for (int i = 0; i < lines.length; i++) {
            if (lines[i].matches("(    |        )[^ ].*\\) \\{")) {
                begin = i;
            } else if (begin >= 0 && lines[i].matches("(    |        )\\}")) {
                due(i - begin <= MOST_LINES, "short: " + lines[begin]);
                begin = -1;
            }
        }
    }

    /** 512 of the dearest calls, each with a long table that is read again, stay far below 600,000 objects. */
    private static void room() {
        com.sun.management.ThreadMXBean threads = (com.sun.management.ThreadMXBean) ManagementFactory.getThreadMXBean();
        String table = "lean 1 p=1|p=2|p=3|p=4|p=5|p=6|p=7|p=8|p=9|p=10|p=11|p=12|p=13|p=14|p=15|p=16|p=17;tilt 2 !!!!!s<6";
        due(table.length() <= 100, "the table fits");
        dear(table, threads);
        long before = threads.getCurrentThreadAllocatedBytes();
        long made = dear(table, threads) - before;
        due(made < 1000000, "512 calls make less than a million bytes: " + made);
    }

    private static long dear(String table, com.sun.management.ThreadMXBean threads) {
        LastPenny x = new LastPenny();
        int calls = 0;
        for (char sign : table.toCharArray()) {
            x.feed(sign);
            calls++;
        }
        x.player(1, 0, 12, 6);
        x.image();
        calls += 2;
        int tables = 0;
        while (calls + 6 <= 512) {
            tables += x.table() == 0 ? 1 : 0;
            x.room(0, 15);
            x.loses(0, 15, 1);
            x.trio(444, 8, 2, 1);
            x.ever(0, 1);
            x.undo();
            calls += 6;
        }
        due(tables > 60, "the table was read each time");
        return threads.getCurrentThreadAllocatedBytes();
    }
}
