import java.lang.reflect.InvocationTargetException;
import java.lang.reflect.Method;
import java.lang.reflect.Modifier;
import java.nio.file.Files;
import java.nio.file.Path;
import java.util.Arrays;
import java.util.Comparator;
import java.util.Set;
import java.util.TreeSet;
import java.util.function.Consumer;

/**
 * Each sentence of the document that names a boundary case has a test of its own here: a method without parameters,
 * which quotes the sentence by says(..). All such methods are run; a quote that is not in the document is a failure,
 * and so is a promise without a quote.
 */
public final class BoundariesTest {
    private static final int NONE = -1, BAD = -2, STATE = -3, FULL = -4;
    private static final long NO = Long.MIN_VALUE;
    private static final int PENNY = 0, BOLD = 1, TIMID = 2, SYSTEM = 3, DRUNK = 4, CAREFUL = 5, TOLD = 6;
    private static final int MIN = Integer.MIN_VALUE, MAX = Integer.MAX_VALUE;
    /** The terms stand ahead of the first promise. */
    private static final int TERMS = 0, PROMISES = 30;

    private static String[] sections;
    private static final Set<Integer> quoted = new TreeSet<>();
    private static String test = "";
    private static boolean hasQuote;
    private static int checked = 0;
    private static int wrong = 0;

    public static void main(String[] args) throws Exception {
        String text = Files.readString(Path.of("../shared/DOC.md")).replaceAll("\\s+", " ");
        sections = text.split("## Promise \\d+: ");
        Method[] methods = BoundariesTest.class.getDeclaredMethods();
        Arrays.sort(methods, Comparator.comparing(Method::getName));
        int tests = 0;
        for (Method m : methods) {
            if (m.getParameterCount() == 0 && m.getReturnType() == void.class && Modifier.isPrivate(m.getModifiers())) {
                run(m);
                tests++;
            }
        }
        test = "promises";
        for (int promise = 1; promise <= PROMISES; promise++) {
            due("promise " + promise + " is quoted", 1, quoted.contains(promise) ? 1 : 0);
        }
        System.out.println(tests + " sentences, " + checked + " answers checked, " + wrong + " not as due");
        if (wrong != 0) {
            System.exit(1);
        }
    }

    private static void run(Method m) throws IllegalAccessException {
        test = m.getName();
        hasQuote = false;
        int before = checked;
        try {
            m.invoke(null);
        } catch (InvocationTargetException e) {
            due("threw " + e.getCause(), 0, 1);
        }
        due("has a quote and a check", 1, hasQuote && checked > before ? 1 : 0);
    }

    // ---- what the tests share

    private static void says(int section, String quote) {
        hasQuote = true;
        quoted.add(section);
        if (section >= sections.length || !sections[section].contains(quote)) {
            wrong++;
            System.out.println(test + ": section " + section + " of the document does not say: " + quote);
        }
    }

    private static void due(String call, long want, long got) {
        checked++;
        if (got != want) {
            wrong++;
            System.out.println(test + ": " + call + " answered " + got + ", due is " + want);
        }
    }

    private static void dueFraction(String call, long above, long below, long gotAbove, long gotBelow) {
        due(call + " above", above, gotAbove);
        due(call + " below", below, gotBelow);
    }

    private static void feedAll(LastPenny x, String text) {
        for (int i = 0; i < text.length(); i++) {
            x.feed(text.charAt(i));
        }
    }

    private static int read(LastPenny x, String text) {
        feedAll(x, text);
        return x.table();
    }

    private static void isTable(String text) {
        due("table '" + text + "'", 0, read(new LastPenny(), text));
    }

    private static void fault(int place, String text) {
        due("table '" + text + "'", -10 - place, read(new LastPenny(), text));
    }

    /** A new object whose player 0 is as told, by a table unless its text is empty. */
    private static LastPenny with(String table, int kind, int v, int goal, int purse) {
        LastPenny x = new LastPenny();
        if (!table.isEmpty()) {
            due("table '" + table + "'", 0, read(x, table));
        }
        due("player", 0, x.player(kind, v, goal, purse));
        return x;
    }

    private static int stake(String table, int kind, int v, int goal, int purse) {
        return with(table, kind, v, goal, purse).of(0, 4);
    }

    private static int odds(String table, int kind, int goal, int purse) {
        return with(table, kind, 0, goal, purse).of(0, 5);
    }

    /** An object whose player of that number is of a KIND; those ahead of it are PENNY. */
    private static LastPenny numbered(int number, int kind, int v) {
        LastPenny x = new LastPenny();
        for (int i = 0; i < number; i++) {
            x.player(PENNY, 0, 2, 1);
        }
        due("player", number, x.player(kind, v, 12, 6));
        return x;
    }

    /** Numbers that are not from .. to, near by and far off. */
    private static int[] outside(int from, int to) {
        return new int[] {from - 1, to + 1, from - 2, to + 2, from - 100, to + 100, from - 256, to + 256, from - 65536,
            to + 65536, MIN, MIN + 1, MAX - 1, MAX};
    }

    private static void tossAll(LastPenny x, String run) {
        x.clear();
        for (int i = 0; i < run.length(); i++) {
            x.toss(run.charAt(i) == '+');
        }
    }

    private static void dueBy(LastPenny x, String run, int... want) {
        tossAll(x, run);
        for (int what = 0; what < want.length; what++) {
            due("by '" + run + "' what " + what, want[what], x.by(0, what));
        }
    }

    private static void dueAct(LastPenny x, int player, int act, int with, int want) {
        due("act(" + player + ", " + act + ", " + with + ")", want, x.act(player, act, with));
    }

    private static void dueTrace(LastPenny x, int... bodies) {
        due("bodies", bodies.length, x.count(4));
        for (int i = 0; i < bodies.length; i++) {
            due("body " + i, bodies[i], x.trace(i));
        }
        due("behind the last body", NONE, x.trace(bodies.length));
    }

    private static long shared(long a, long b) {
        return b == 0 ? a : shared(b, a % b);
    }

    /** All that calls can tell of an object without changing it (ROWS are set and set back), but THE TAPE's signs. */
    private static String looks(LastPenny x) {
        StringBuilder text = new StringBuilder();
        for (int what = 0; what <= 4; what++) {
            text.append(x.count(what)).append(' ');
        }
        text.append("day ").append(x.told(0)).append(" limit ").append(x.told(1));
        text.append(" seen ").append(x.seen(0)).append(' ').append(x.seen(1));
        for (int p = 0; p < x.count(0); p++) {
            text.append("; of ").append(p);
            for (int what = 0; what <= 5; what++) {
                text.append(' ').append(x.of(p, what));
            }
            for (int what = 0; what <= 4; what++) {
                text.append(' ').append(x.by(p, what));
            }
            for (int k = 0; k < 4 && x.of(p, 0) == TOLD; k++) {
                int n = x.row(p, k, 0);
                x.row(p, k, n);
                text.append(' ').append(n);
            }
        }
        for (int i = 0; i < x.count(4); i++) {
            text.append(" body ").append(x.trace(i));
        }
        return text.toString();
    }

    private static void dueSame(String what, String want, String got) {
        checked++;
        if (!want.equals(got)) {
            wrong++;
            System.out.println(test + ": " + what + ": " + got + ", due is " + want);
        }
    }

    /** The same object each time: players 0 BOLD, 1 TOLD, 2 PENNY that is OVER; a table, throws, a day, a tape. */
    private static LastPenny busy() {
        LastPenny x = with("limit 3;lean 2 p>4&d=6", BOLD, 2, 12, 5);
        x.player(TOLD, 7, 10, 6);
        x.player(PENNY, 9, 2, 2);
        x.row(1, 2, 2);
        x.row(1, 3, 9);
        tossAll(x, "++-");
        x.day(6);
        x.act(0, 1, 7);
        feedAll(x, "limi");
        return x;
    }

    /** Calls on a busy object that change nothing: it looks as before, and its tape reads as before. */
    private static void dueUnchanged(Consumer<LastPenny> calls) {
        LastPenny x = busy();
        String before = looks(x);
        calls.accept(x);
        dueSame("looks", before, looks(x));
        due("the tape", 1, read(x, "t 7"));
        due("its limit", 7, x.told(1));
    }

    // ---- "What it is" and the face

    private static void playersFrom0() {
        says(TERMS, "PLAYERS are numbered from 0 on, 4 at most");
        LastPenny x = new LastPenny();
        for (int i = 0; i < 4; i++) {
            due("player " + i, i, x.player(i, i, 12, i));
        }
        for (int i = 0; i < 4; i++) {
            due("KIND of " + i, i, x.of(i, 0));
            due("PURSE of " + i, i, x.of(i, 3));
        }
        due("a fifth", FULL, x.player(PENNY, 0, 12, 1));
        due("there is no fifth", NONE, x.of(4, 0));
    }

    private static void usedFor512Calls() {
        says(TERMS, "An object is used for at most 512 calls after it has been made");
        LastPenny x = new LastPenny();
        due("call 1", 0, x.player(PENNY, 0, 12, 6));
        due("call 2", 1, x.image());
        for (int call = 3; call <= 507; call += 3) {
            due("call " + call, 7, x.play(0, true));
            due("call " + (call + 1), 1, x.undo());
            due("call " + (call + 2), 6, x.of(0, 3));
        }
        due("call 510", 1, x.toss(true));
        due("call 511", 1, x.count(2));
        due("call 512", 5, x.play(0, false));
    }

    private static void noIsTheLeastLong() {
        says(TERMS, "`NO = Long.MIN_VALUE`: There is no such number.");
        due("NO", -9223372036854775808L, LastPenny.NO);
        due("NONE", -1, LastPenny.NONE);
        due("BAD", -2, LastPenny.BAD);
        due("STATE", -3, LastPenny.STATE);
        due("FULL", -4, LastPenny.FULL);
    }

    // ---- "Terms", 1: players

    private static void kinds() {
        says(TERMS, "0 PENNY; 1 BOLD, 2 TIMID, 3 SYSTEM under PENNY; 4 DRUNK under BOLD; 5 CAREFUL under TIMID;"
            + " 6 TOLD under SYSTEM");
        for (int kind = 0; kind <= 6; kind++) {
            due("KIND " + kind, kind, with("", kind, 0, 2, 1).of(0, 0));
        }
        for (int kind : outside(0, 6)) {
            due("KIND " + kind, NONE, new LastPenny().player(kind, 0, 2, 1));
        }
    }

    private static void v0To9() {
        says(TERMS, "a number v (0 .. 9)");
        for (int v = 0; v <= 9; v++) {
            due("v " + v, v, with("", PENNY, v, 2, 1).of(0, 1));
        }
        for (int v : outside(0, 9)) {
            due("v " + v, BAD, new LastPenny().player(PENNY, v, 2, 1));
        }
    }

    private static void goal2To12() {
        says(TERMS, "a GOAL (2 .. 12)");
        for (int goal = 2; goal <= 12; goal++) {
            due("GOAL " + goal, goal, with("", PENNY, 0, goal, 1).of(0, 2));
        }
        for (int goal : outside(2, 12)) {
            due("GOAL " + goal, BAD, new LastPenny().player(PENNY, 0, goal, 0));
            due("GOAL " + goal, BAD, new LastPenny().player(PENNY, 0, goal, 1));
        }
    }

    private static void purse0ToGoal() {
        says(TERMS, "a PURSE (0 .. GOAL)");
        for (int goal = 2; goal <= 12; goal++) {
            for (int purse = 0; purse <= goal; purse++) {
                due("PURSE " + purse, purse, with("", PENNY, 0, goal, purse).of(0, 3));
            }
            for (int purse : outside(0, goal)) {
                due("PURSE " + purse, BAD, new LastPenny().player(PENNY, 0, goal, purse));
            }
        }
    }

    private static void rowOfFour() {
        says(TERMS, "TOLD ones a ROW of four numbers (0 .. 9; 0 at first)");
        LastPenny x = with("", TOLD, 0, 12, 6);
        for (int k = 0; k < 4; k++) {
            due("row " + k + " at first", 0, x.row(0, k, 9));
        }
        for (int k = 0; k < 4; k++) {
            due("row " + k + " is 9", 9, x.row(0, k, 0));
            due("row " + k + " is 0", 0, x.row(0, k, 1));
        }
        due("a fifth number", NONE, x.row(0, 4, 0));
        due("the second player", 1, x.player(TOLD, 0, 12, 6));
        for (int k = 0; k < 4; k++) {
            due("row " + k + " of another at first", 0, x.row(1, k, 5));
            due("row " + k + " of the first", 1, x.row(0, k, 1));
        }
    }

    private static void rowsOfOthersStay() {
        says(TERMS, "TOLD ones a ROW of four numbers (0 .. 9; 0 at first)");
        LastPenny x = new LastPenny();
        for (int player = 0; player < 4; player++) {
            due("player", player, x.player(TOLD, 0, 12, 6));
            for (int k = 0; k < 4; k++) {
                due("row " + k + " of " + player + " at first", 0, x.row(player, k, 1 + (player + k) % 9));
            }
        }
        for (int player = 0; player < 4; player++) {
            for (int k = 0; k < 4; k++) {
                due("row " + k + " of " + player, 1 + (player + k) % 9, x.row(player, k, 0));
            }
        }
    }

    private static void overAt0AndGoal() {
        says(TERMS, "A player is OVER, if PURSE is 0 or GOAL.");
        for (int goal = 2; goal <= 12; goal++) {
            LastPenny x = with("", PENNY, 0, goal, 0);
            due("OVER at 0", STATE, x.play(0, true));
            x.purse(0, 1);
            due("not OVER at 1", 1, x.of(0, 4));
            due("not OVER at 1", 0, x.play(0, false));
            due("OVER at 0", STATE, x.play(0, true));
            x.purse(0, goal - 1);
            due("not OVER below GOAL", 1, x.of(0, 4));
            due("not OVER below GOAL", goal, x.play(0, true));
            due("OVER at GOAL", STATE, x.play(0, false));
        }
    }

    private static void day0At1st() {
        says(TERMS, "DAY: 0 .. 9 (0 at first)");
        LastPenny x = with("lean 1 d=0;lean 2 d=9", PENNY, 0, 2, 1);
        due("DAY at first", 0, x.told(0));
        due("ODDS at first", 6, x.of(0, 5));
        due("DAY 9", 0, x.day(9));
        due("ODDS at 9", 7, x.of(0, 5));
        due("DAY 10", BAD, x.day(10));
        due("DAY -1", BAD, x.day(-1));
        due("DAY stays", 9, x.told(0));
    }

    // ---- "Terms", 1: the text of a TABLE

    private static String ofHundred(char last) {
        StringBuilder text = new StringBuilder("lean 3 p<99&p<99");
        for (int i = 0; i < 21; i++) {
            text.append("&p<9");
        }
        text.setCharAt(99, last);
        return text.toString();
    }

    private static void tapeOf100() {
        says(TERMS, "A TABLE is read from THE TAPE (bytes, 100 at most)");
        LastPenny x = new LastPenny();
        feedAll(x, ofHundred('9'));
        due("the tape has", 100, x.count(3));
        due("a 101st", FULL, x.feed('9'));
        due("the tape has", 100, x.count(3));
        due("table of 100", 0, x.table());
        x.player(PENNY, 0, 12, 5);
        due("the 100th sign counts", 8, x.of(0, 5));
        due("the 100th sign counts", 5, odds(ofHundred('0'), PENNY, 12, 5));
        fault(99, ofHundred('x'));
        fault(100, "lean 1 " + "(p=1)&".repeat(15) + "(p=");
        fault(0, "\0".repeat(100));
    }

    private static String limits(int clauses) {
        return "limit 5" + ";limit 5".repeat(clauses - 1);
    }

    private static void clauses10AtMost() {
        says(TERMS, "CLAUSES, 10 at most, with ; between");
        for (int clauses = 1; clauses <= 10; clauses++) {
            isTable(limits(clauses));
        }
        fault(79, limits(11));
        fault(79, limits(12));
        fault(79, limits(10) + ";");
        fault(79, limits(10) + "x");
        isTable(limits(10) + "5");
        due("the 10th counts", 2, stake(limits(9) + ";limit 2", BOLD, 0, 12, 6));
        String leans = "limit 9;limit 9;limit 9;limit 9;limit 9;lean 1 p>0;tilt 2 p>0;lean 1 p>0;lean 1 p>0;";
        due("the 10th counts", 8, odds(leans + "lean 2 p>0", PENNY, 12, 5));
        due("the 10th counts", 3, odds(leans + "tilt 3 p>0", PENNY, 12, 5));
    }

    private static void semicolonsBetween() {
        says(TERMS, "CLAUSES, 10 at most, with ; between");
        fault(0, "");
        fault(0, ";");
        fault(0, ";limit 5");
        fault(8, "limit 5;");
        fault(8, "limit 5;;");
        fault(8, "limit 5;;limit 5");
        fault(7, "limit 5limit 5");
        fault(7, "limit 5 ;limit 5");
        fault(8, "limit 5; limit 5");
        fault(7, "limit 5,limit 5");
        isTable("lean 1 p=1;tilt 1 p=1;limit 1");
        isTable("limit 1;tilt 1 p=1;lean 1 p=1");
        fault(11, "tilt 1 p=1;");
    }

    private static void words() {
        says(TERMS, "lean n E; tilt n E; limit n");
        String[] wordsThatAre = {"lean 1 p=1", "tilt 1 p=1", "limit 1"};
        for (String text : wordsThatAre) {
            isTable(text);
        }
        fault(0, "Lean 1 p=1");
        fault(1, "lEan 1 p=1");
        fault(3, "lead 1 p=1");
        fault(4, "leans 1 p=1");
        fault(1, "talt 1 p=1");
        fault(3, "till 1 p=1");
        fault(4, "limi 1");
        fault(5, "limits 1");
        fault(2, "lilt 1 p=1");
        fault(2, "leit 1");
        fault(1, "lan 1 p=1");
        fault(0, "1 p=1");
        fault(0, "p=1");
        fault(7, "limit 1 p=1");
        fault(6, "lean 1");
        fault(6, "tilt 1;limit 1");
        fault(5, "lean p=1");
        fault(6, "limit p=1");
    }

    private static void oneBlank() {
        says(TERMS, "one blank ahead of each part behind the word");
        fault(4, "lean1 p=1");
        fault(5, "lean  1 p=1");
        fault(6, "lean 1p=1");
        fault(7, "lean 1  p=1");
        fault(7, "lean 12p=1");
        fault(4, "tilt1 p=1");
        fault(5, "tilt  1 p=1");
        fault(6, "tilt 1p=1");
        fault(7, "tilt 1  p=1");
        fault(5, "limit1");
        fault(6, "limit  1");
        fault(4, "lean\t1 p=1");
        fault(0, " lean 1 p=1");
        fault(10, "lean 1 p=1 ");
        fault(7, "limit 1 ");
        fault(8, "lean 1 p =1");
        fault(9, "lean 1 p= 1");
        fault(10, "lean 1 p=1 &p=1");
        fault(11, "lean 1 p=1& p=1");
        fault(10, "lean 1 p=1 |p=1");
        fault(11, "lean 1 p=1| p=1");
        fault(8, "lean 1 ! p=1");
        fault(8, "lean 1 ( p=1)");
        fault(11, "lean 1 (p=1 )");
    }

    private static void numbersOfAClause() {
        says(TERMS, "n 1 or 2 digits, no 0 ahead of another");
        String[] numbers = {"0", "1", "9", "10", "19", "90", "99"};
        for (String n : numbers) {
            isTable("lean " + n + " p=1");
            isTable("tilt " + n + " p=1");
            isTable("limit " + n);
        }
        for (int digit = 0; digit <= 9; digit++) {
            fault(6, "lean 0" + digit + " p=1");
            fault(6, "tilt 0" + digit + " p=1");
            fault(7, "limit 0" + digit);
            fault(7, "lean 10" + digit + " p=1");
            fault(7, "tilt 99" + digit + " p=1");
            fault(8, "limit 10" + digit);
        }
        fault(5, "lean -1 p=1");
        fault(5, "lean +1 p=1");
        fault(5, "lean / p=1");
        fault(5, "lean : p=1");
        fault(6, "limit /");
        fault(6, "limit :");
        fault(7, "limit 1/");
        fault(7, "limit 1:");
        due("n is read by its digits", 12, with("limit 12", PENNY, 0, 2, 1).told(1));
        due("n is read by its digits", 90, with("limit 90", PENNY, 0, 2, 1).told(1));
    }

    private static void numbersOfATest() {
        says(TERMS, "one of < = >, a number likewise");
        String[] numbers = {"0", "1", "9", "10", "19", "90", "99"};
        for (String n : numbers) {
            isTable("lean 1 p<" + n);
            isTable("lean 1 p=" + n);
            isTable("lean 1 p>" + n);
        }
        for (int digit = 0; digit <= 9; digit++) {
            fault(10, "lean 1 p=0" + digit);
            fault(11, "lean 1 p<10" + digit);
            fault(11, "lean 1 p>99" + digit);
        }
        fault(9, "lean 1 p=-1");
        fault(9, "lean 1 p=");
        fault(9, "lean 1 p=;");
        fault(9, "lean 1 p==1");
        fault(9, "lean 1 p<=1");
        fault(9, "lean 1 p>=1");
        fault(9, "lean 1 p<>1");
        fault(8, "lean 1 p!1");
        fault(8, "lean 1 p1");
        fault(8, "lean 1 p;1");
        fault(8, "lean 1 p?1");
    }

    private static void lessEqualMore() {
        says(TERMS, "one of < = >, a number likewise");
        String[] signs = {"<", "=", ">"};
        for (int purse = 9; purse <= 11; purse++) {
            for (int sign = 0; sign < 3; sign++) {
                boolean holds = sign == Integer.compare(purse, 10) + 1;
                String text = "p" + signs[sign] + "10";
                due(text + " at " + purse, holds ? 6 : 5, odds("lean 1 " + text, PENNY, 12, purse));
            }
        }
        due("p<0 never holds", 5, odds("lean 1 p<0|g<0|s<0|d<0|k<0|n<0", PENNY, 12, 1));
        due("d>0 on day 0", 5, odds("lean 1 d>0|n>0|k>0", PENNY, 12, 1));
        due("none is over 99", 5, odds("lean 1 p>99|g>99|s>99|d>99|k>99|n>99", PENNY, 12, 1));
        due("all are below 99", 6, odds("lean 1 p<99&g<99&s<99&d<99&k<99&n<99", PENNY, 12, 1));
    }

    private static void whatATestLooksAt() {
        says(TERMS, "of a player who stakes n the number, k the KIND, p PURSE, g GOAL less PURSE, s the stake, d DAY");
        String letters = "nkpgsd";
        int[] seen = {3, 1, 5, 7, 2, 8};
        for (int i = 0; i < letters.length(); i++) {
            for (int value = 0; value <= 12; value++) {
                dueSeen(letters.charAt(i) + "<" + value, seen[i] < value);
                dueSeen(letters.charAt(i) + "=" + value, seen[i] == value);
                dueSeen(letters.charAt(i) + ">" + value, seen[i] > value);
            }
        }
        for (int what : new int[] {'a', 'v', 'o', 'N', 'K', 'P', 'G', 'S', 'D', '0', 'q', 'l', 'e'}) {
            fault(7, "lean 1 " + (char) what + "=1");
        }
    }

    /** Whether a TEST holds for player 3, a BOLD one of GOAL 12 and PURSE 5 that stakes 2, on DAY 8. */
    private static void dueSeen(String text, boolean holds) {
        LastPenny x = numbered(3, BOLD, 9);
        x.purse(3, 5);
        x.day(8);
        due("table", 0, read(x, "limit 2;lean 1 " + text));
        due(text, holds ? 6 : 5, x.of(3, 5));
    }

    private static void aTestBeginsWithALetter() {
        says(TERMS, "or a TEST: n or k or p or g or s or d, one of < = >, a number likewise");
        fault(7, "lean 1 =1");
        fault(7, "lean 1 <1");
        fault(7, "lean 1 >1");
        fault(7, "lean 1 1=1");
        fault(8, "lean 1 !=1");
        fault(8, "lean 1 (=1)");
        fault(11, "lean 1 p=1&=1");
        fault(11, "lean 1 p=1|>1");
        fault(8, "lean 1 pp=1");
        fault(8, "lean 1 pg=1");
    }

    private static void everyNumber() {
        says(TERMS, "of a player who stakes n the number, k the KIND");
        for (int number = 0; number < 4; number++) {
            LastPenny x = numbered(number, CAREFUL, 7);
            read(x, "lean 1 n=" + number);
            due("n of " + number, 6, x.of(number, 5));
        }
        for (int kind = 0; kind <= 6; kind++) {
            due("k " + kind, 6, odds("lean 1 k=" + kind, kind, 12, 5));
            due("k is no KIND above", 5, odds("lean 1 k<" + kind, kind, 12, 5));
            due("k is no KIND below", 5, odds("lean 1 k>" + kind, kind, 12, 5));
        }
    }

    private static void eitherAndBoth() {
        says(TERMS, "E: T, or T|E. T: F, or F&T.");
        String[] truths = {"p=5", "p=5|p=4", "p=4|p=5", "p=5|p=4&p=4", "p=4&p=4|p=5", "p=4&p=5|p=5", "p=5&p=5",
            "p=4|p=4|p=5", "p=5|p=4|p=4", "p=4|p=5&p=5|p=4", "(p=4|p=5)&(p=5|p=4)"};
        String[] falsehoods = {"p=4", "p=4|p=4", "p=5&p=4", "p=4&p=5", "(p=5|p=5)&p=4", "p=4&(p=5|p=5)",
            "p=5&p=5&p=4", "p=4&p=5&p=5", "p=4&p=5|p=5&p=4"};
        for (String text : truths) {
            due(text, 6, odds("lean 1 " + text, PENNY, 12, 5));
        }
        for (String text : falsehoods) {
            due(text, 5, odds("lean 1 " + text, PENNY, 12, 5));
        }
        due("as many | as fit", 6, odds("lean 1 p=4" + "|p=4".repeat(21) + "|p=5", PENNY, 12, 5));
        due("as many & as fit", 6, odds("lean 1 p=5" + "&p=5".repeat(22), PENNY, 12, 5));
        due("as many & as fit", 5, odds("lean 1 p=5" + "&p=5".repeat(21) + "&p=4", PENNY, 12, 5));
        fault(7, "lean 1 |p=1");
        fault(7, "lean 1 &p=1");
        fault(11, "lean 1 p=1|");
        fault(11, "lean 1 p=1&");
        fault(11, "lean 1 p=1||p=1");
        fault(11, "lean 1 p=1&&p=1");
        fault(11, "lean 1 p=1&|p=1");
        fault(11, "lean 1 p=1&;limit 1");
    }

    private static void notsAndBrackets() {
        says(TERMS, "F: !F, (E), or a TEST");
        due("! of a TEST", 6, odds("lean 1 !p=4", PENNY, 12, 5));
        due("! of a TEST", 5, odds("lean 1 !p=5", PENNY, 12, 5));
        due("! of !", 6, odds("lean 1 !!p=5", PENNY, 12, 5));
        due("! of its F alone", 6, odds("lean 1 !p=5|p=5", PENNY, 12, 5));
        due("! of its F alone", 5, odds("lean 1 !p=4&p=4", PENNY, 12, 5));
        due("! of brackets", 5, odds("lean 1 !(p=5|p=4)", PENNY, 12, 5));
        due("! of brackets", 6, odds("lean 1 !(p=5&p=4)", PENNY, 12, 5));
        due("brackets in brackets", 6, odds("lean 1 ((p=5)&(p=5|(p=4)))", PENNY, 12, 5));
        fault(8, "lean 1 ()");
        fault(8, "lean 1 !)");
        fault(7, "lean 1 )");
        fault(10, "lean 1 p=1)");
        fault(12, "lean 1 (p=1))");
        fault(11, "lean 1 (p=1");
        fault(11, "lean 1 (p=1;limit 1");
        fault(10, "lean 1 p=1!p=1");
        fault(10, "lean 1 p=1(p=1)");
        fault(12, "lean 1 (p=1)p=1");
        fault(8, "lean 1 !&p=1");
    }

    private static void open5AtMost() {
        says(TERMS, "At most 5 of ! and ( are open");
        for (int open = 1; open <= 5; open++) {
            isTable("lean 1 " + "!".repeat(open) + "p=1");
            isTable("lean 1 " + "(".repeat(open) + "p=1" + ")".repeat(open));
        }
        fault(12, "lean 1 !!!!!!p=1");
        fault(12, "lean 1 ((((((p=1))))))");
        fault(12, "lean 1 !!!!!(p=1)");
        fault(12, "lean 1 (((((!p=1)))))");
        isTable("lean 1 !(!(!p=1))");
        fault(12, "lean 1 !(!(!(p=1)))");
        isTable("lean 1 (!(!(p=1)))");
        fault(12, "lean 1 (!(!(!p=1)))");
        fault(16, "lean 1 (((((p=1&(p=1))))))");
        fault(16, "lean 1 (((((p=1|!p=1)))))");
        due("five of !", 5, odds("lean 1 !!!!!p=5", PENNY, 12, 5));
        due("five of !", 6, odds("lean 1 !!!!!p=4", PENNY, 12, 5));
        due("five of (", 6, odds("lean 1 (((((p=5)))))", PENNY, 12, 5));
        String waiting = "lean 1 " + "p=4|p=5&(".repeat(5);
        due("the most that waits", 6, odds(waiting + "p=4|p=5&p=5)))))", PENNY, 12, 5));
        due("the most that waits", 5, odds(waiting + "p=4|p=5&p=4)))))", PENNY, 12, 5));
    }

    private static void bracketsOpenTillTheyClose() {
        says(TERMS, "(a ( till its ) , a ! till its F ends)");
        isTable("lean 1 (((((p=1)))))&(((((p=1)))))|(((((p=1)))))");
        isTable("lean 1 (((((p=1))))&((((p=1)))))");
        fault(24, "lean 1 (((((p=1))))&(((((p=1))))))");
        isTable("lean 1 (((((p=1)))))&!!!!!p=1");
        isTable("lean 1 (((((p=1)))));lean 1 (((((p=1)))))");
        fault(31, "lean 1 ((((p=1))));lean 1 ((((((p=1)");
    }

    private static void notsOpenTillTheirFEnds() {
        says(TERMS, "(a ( till its ) , a ! till its F ends)");
        isTable("lean 1 !!!!!p=1&!!!!!p=1|!!!!!p=1");
        fault(21, "lean 1 !!!!!p=1|!!!!!!p=1");
        isTable("lean 1 (!p=1&!!!!p=1)");
        fault(17, "lean 1 (!p=1&!!!!!p=1)");
        isTable("lean 1 !(p=1&!!!p=1)");
        fault(16, "lean 1 !(p=1&!!!!p=1)");
        isTable("lean 1 !(p=1)&!!!!!p=1");
        isTable("lean 1 !((((p=1))))|!((((p=1))))");
        fault(12, "lean 1 !(((((p=1)))))");
        isTable("lean 1 !!!!!p=1;lean 1 !!!!!p=1");
    }

    private static void faultIsTheFirstByte() {
        says(TERMS, "FAULT: the place of the first byte with which no TABLE can go on");
        String text = "lean 12 !(p<3|k=10)&g>0;tilt 5 s=2;limit 40";
        isTable(text);
        for (int place = 0; place <= text.length(); place++) {
            fault(place, text.substring(0, place) + "~");
            fault(place, text.substring(0, place) + "\0");
            fault(place, text.substring(0, place) + (char) 127 + text.substring(place));
            fault(place, text.substring(0, place) + "~~~");
        }
    }

    private static void faultIsTheSize() {
        says(TERMS, "(the size, if it ends too early)");
        String text = "lean 12 !(p<3|k=10)&g>0;tilt 5 s=2;limit 40";
        Set<Integer> whole = new TreeSet<>(Arrays.asList(19, 23, 34, 42, 43));
        for (int size = 0; size <= text.length(); size++) {
            if (whole.contains(size)) {
                isTable(text.substring(0, size));
            } else {
                fault(size, text.substring(0, size));
            }
        }
    }

    private static void tables5AtMost() {
        says(TERMS, "TABLES are numbered from 0 on, 5 at most");
        LastPenny x = new LastPenny();
        for (int i = 0; i < 5; i++) {
            due("table " + i, i, read(x, "limit " + (i + 11)));
            due("tables", i + 1, x.count(1));
        }
        due("a sixth", FULL, read(x, "limit 20"));
        due("tables", 5, x.count(1));
        due("the fifth holds", 15, x.told(1));
    }

    private static void fiveLongTables() {
        says(TERMS, "TABLES are numbered from 0 on, 5 at most");
        LastPenny x = new LastPenny();
        x.player(PENNY, 0, 12, 5);
        for (int i = 0; i < 4; i++) {
            // the last sign of the tape decides, and nothing is left of the tapes ahead
            due("a long table", i, read(x, ofHundred(i % 2 == 0 ? '9' : '5')));
            due("its ODDS", i % 2 == 0 ? 8 : 5, x.of(0, 5));
        }
        due("a short one", 4, read(x, "tilt 2 p=5"));
        due("its ODDS", 3, x.of(0, 5));
    }

    private static void aTableBehindLongFaults() {
        says(TERMS, "FAULT: the place of the first byte with which no TABLE can go on");
        LastPenny x = new LastPenny();
        x.player(PENNY, 0, 12, 5);
        for (int i = 0; i < 4; i++) {
            due("a long fault", -109, read(x, ofHundred('x')));
        }
        due("a table", 0, read(x, "tilt 2 p=5&p<9"));
        due("its ODDS", 3, x.of(0, 5));
    }

    private static void theNewestHolds() {
        says(TERMS, "the newest one holds");
        LastPenny x = with("limit 2;lean 1 p=5", BOLD, 0, 12, 5);
        due("limit", 2, x.told(1));
        due("STAKE", 2, x.of(0, 4));
        due("ODDS", 6, x.of(0, 5));
        read(x, "lean 3 p=4");
        due("no limit of the older one", 99, x.told(1));
        due("STAKE", 5, x.of(0, 4));
        due("no lean of the older one", 5, x.of(0, 5));
        read(x, "limit 4;tilt 2 p=5");
        due("limit", 4, x.told(1));
        due("STAKE", 4, x.of(0, 4));
        due("ODDS", 3, x.of(0, 5));
    }

    private static void withoutATable() {
        says(TERMS, "without one there are no CLAUSES");
        for (int kind = 0; kind <= 6; kind++) {
            for (int purse = 1; purse < 12; purse++) {
                LastPenny x = with("", kind, 3, 12, purse);
                due("ODDS without", 5, x.of(0, 5));
                due("limit without", 99, x.told(1));
            }
        }
        LastPenny y = with("", BOLD, 0, 12, 6);
        due("a fault", -17, read(y, "limit 2 "));
        due("still without", 99, y.told(1));
        due("still without", 6, y.of(0, 4));
        due("still without", 5, y.of(0, 5));
    }

    private static void limitLast() {
        says(TERMS, "limit: the last n (99 without), 1 at least");
        due("the last", 5, with("limit 7;limit 5", BOLD, 0, 12, 6).told(1));
        due("the last", 7, with("limit 5;limit 7", BOLD, 0, 12, 6).told(1));
        due("the last of ten", 3, with(limits(9) + ";limit 3", BOLD, 0, 12, 6).told(1));
        due("the last, a lean behind it", 5, with("limit 7;limit 5;lean 1 p=1", BOLD, 0, 12, 6).told(1));
        due("99 is the greatest", 99, with("limit 99", BOLD, 0, 12, 6).told(1));
        due("98", 98, with("limit 98", BOLD, 0, 12, 6).told(1));
    }

    private static void limit99Without() {
        says(TERMS, "limit: the last n (99 without), 1 at least");
        due("without a table", 99, new LastPenny().told(1));
        due("a table without", 99, with("lean 1 p=1", BOLD, 0, 12, 6).told(1));
        due("a table without", 6, stake("tilt 1 p=1", BOLD, 0, 12, 6));
    }

    private static void limit1AtLeast() {
        says(TERMS, "limit: the last n (99 without), 1 at least");
        due("0 is 1", 1, with("limit 0", BOLD, 0, 12, 6).told(1));
        due("0 is 1", 1, stake("limit 0", BOLD, 0, 12, 6));
        due("1 is 1", 1, with("limit 1", BOLD, 0, 12, 6).told(1));
        due("2 is 2", 2, with("limit 2", BOLD, 0, 12, 6).told(1));
        due("the last is 0", 1, with("limit 9;limit 0", BOLD, 0, 12, 6).told(1));
        due("the last is not 0", 9, with("limit 0;limit 9", BOLD, 0, 12, 6).told(1));
    }

    // ---- "Terms", 1: ODDS, STAKE, THROW

    private static void odds1To9() {
        says(TERMS, "1 .. 9, else the bound");
        int[] leans = {0, 3, 4, 5, 99};
        int[] ofLean = {5, 8, 9, 9, 9};
        int[] ofTilt = {5, 2, 1, 1, 1};
        for (int i = 0; i < leans.length; i++) {
            due("lean " + leans[i], ofLean[i], odds("lean " + leans[i] + " p=5", PENNY, 12, 5));
            due("tilt " + leans[i], ofTilt[i], odds("tilt " + leans[i] + " p=5", PENNY, 12, 5));
        }
        due("many leans", 9, odds("lean 99 p=5;lean 99 p=5;lean 99 p=5", PENNY, 12, 5));
        due("many tilts", 1, odds("tilt 99 p=5;tilt 99 p=5;tilt 99 p=5", PENNY, 12, 5));
    }

    private static void oddsTogether() {
        says(TERMS, "5, and the n of all lean whose E holds, less those of all tilt, together");
        due("not bounded between", 6, odds("lean 98 p=5;tilt 97 p=5", PENNY, 12, 5));
        due("not bounded between", 6, odds("tilt 97 p=5;lean 98 p=5", PENNY, 12, 5));
        due("not bounded between", 4, odds("lean 99 p=5;tilt 99 p=5;tilt 1 p=5", PENNY, 12, 5));
        due("those that hold alone", 7, odds("lean 2 p=5;lean 4 p=4;tilt 3 p=4", PENNY, 12, 5));
        due("the same twice", 9, odds("lean 2 p=5;lean 2 p=5", PENNY, 12, 5));
        due("none holds", 5, odds("lean 2 p=4;tilt 3 p=4", PENNY, 12, 5));
    }

    private static void pennyStakes1() {
        says(TERMS, "PENNY: 1.");
        for (int purse = 1; purse < 12; purse++) {
            due("at " + purse, 1, stake("", PENNY, 9, 12, purse));
        }
        due("GOAL 2", 1, stake("limit 0", PENNY, 9, 2, 1));
    }

    private static void boldStakesTheLesser() {
        says(TERMS, "BOLD: the lesser of PURSE and GOAL less PURSE.");
        int[] of12 = {1, 2, 3, 4, 5, 6, 5, 4, 3, 2, 1};
        int[] of11 = {1, 2, 3, 4, 5, 5, 4, 3, 2, 1};
        for (int purse = 1; purse < 12; purse++) {
            due("at " + purse + " of 12", of12[purse - 1], stake("", BOLD, 9, 12, purse));
        }
        for (int purse = 1; purse < 11; purse++) {
            due("at " + purse + " of 11", of11[purse - 1], stake("", BOLD, 9, 11, purse));
        }
    }

    private static void timidStakesByV() {
        says(TERMS, "TIMID: 1, and v modulo 3.");
        int[] want = {1, 2, 3, 1, 2, 3, 1, 2, 3, 1};
        for (int v = 0; v <= 9; v++) {
            due("v " + v, want[v], stake("", TIMID, v, 12, 6));
        }
    }

    private static void systemStakesByPurse() {
        says(TERMS, "SYSTEM: 1, and PURSE modulo (v and 2, together).");
        int[][] ofVAndPurse = {{0, 4, 1}, {0, 5, 2}, {1, 3, 1}, {1, 4, 2}, {1, 5, 3}, {2, 4, 1}, {2, 7, 4}, {3, 5, 1},
            {3, 4, 4}, {3, 6, 2}, {4, 6, 1}, {4, 5, 5}, {5, 7, 1}, {6, 8, 1}, {7, 9, 1}, {8, 10, 1}, {9, 10, 2},
            {9, 11, 1}, {9, 1, 1}};
        for (int[] row : ofVAndPurse) {
            due("v " + row[0] + " at " + row[1], row[2], stake("", SYSTEM, row[0], 12, row[1]));
        }
    }

    private static void drunkStakesHalfOfBold() {
        says(TERMS, "DRUNK: the half of what BOLD stakes, rounded up.");
        int[] of12 = {1, 1, 2, 2, 3, 3, 3, 2, 2, 1, 1};
        for (int purse = 1; purse < 12; purse++) {
            due("at " + purse + " of 12", of12[purse - 1], stake("", DRUNK, 9, 12, purse));
        }
        due("GOAL 2", 1, stake("", DRUNK, 9, 2, 1));
    }

    private static void carefulStakesAFourth() {
        says(TERMS, "CAREFUL: as TIMID, but PURSE by 4 (cut) at most, 1 at least.");
        int[] ofV2 = {1, 1, 1, 1, 1, 1, 1, 2, 2, 2, 1};
        for (int purse = 1; purse < 12; purse++) {
            due("v 2 at " + purse, ofV2[purse - 1], stake("", CAREFUL, 2, 12, purse));
            due("v 0 at " + purse, 1, stake("", CAREFUL, 0, 12, purse));
        }
        due("v 1 at 8", 2, stake("", CAREFUL, 1, 12, 8));
        due("v 1 at 7", 1, stake("", CAREFUL, 1, 12, 7));
        due("v 3 at 8", 1, stake("", CAREFUL, 3, 12, 8));
    }

    private static void toldStakesByRow() {
        says(TERMS, "TOLD: the number of its ROW at PURSE modulo 4; as SYSTEM, if that is 0.");
        LastPenny x = with("", TOLD, 4, 12, 6);
        int[] row = {4, 0, 2, 3};
        for (int k = 0; k < 4; k++) {
            x.row(0, k, row[k]);
        }
        // at 1, 5, 9 the number is 0: as SYSTEM, 1 and PURSE modulo 6
        int[] want = {1, 2, 3, 4, 5, 2, 3, 4, 3, 2, 1};
        for (int purse = 1; purse < 12; purse++) {
            x.purse(0, purse);
            due("at " + purse, want[purse - 1], x.of(0, 4));
        }
        x.purse(0, 5);
        x.row(0, 1, 1);
        due("1 is not 0", 1, x.of(0, 4));
        x.row(0, 1, 9);
        due("9, but PURSE is 5", 5, x.of(0, 4));
        x.row(0, 1, 0);
        due("as SYSTEM again, 6, but PURSE is 5", 5, x.of(0, 4));
        x.purse(0, 4);
        x.row(0, 0, 0);
        due("as SYSTEM, 5, but PURSE is 4", 4, x.of(0, 4));
    }

    private static void stakeNoMoreThanPurse() {
        says(TERMS, "Then it is no more than PURSE, than GOAL less PURSE, than limit.");
        due("TIMID 3 at 2", 2, stake("", TIMID, 2, 12, 2));
        due("TIMID 3 at 1", 1, stake("", TIMID, 2, 12, 1));
        due("TIMID 3 at 3", 3, stake("", TIMID, 2, 12, 3));
        due("SYSTEM 6 at 5", 5, stake("", SYSTEM, 9, 12, 5));
        due("SYSTEM 3 at 2", 2, stake("", SYSTEM, 9, 12, 2));
        LastPenny x = with("", TOLD, 0, 12, 1);
        x.row(0, 1, 9);
        due("TOLD 9 at 1", 1, x.of(0, 4));
    }

    private static void stakeNoMoreThanTheRest() {
        says(TERMS, "Then it is no more than PURSE, than GOAL less PURSE, than limit.");
        due("TIMID 3 at 10", 2, stake("", TIMID, 2, 12, 10));
        due("TIMID 3 at 11", 1, stake("", TIMID, 2, 12, 11));
        due("TIMID 3 at 9", 3, stake("", TIMID, 2, 12, 9));
        due("SYSTEM 8 at 7", 5, stake("", SYSTEM, 9, 12, 7));
        due("CAREFUL 2 at 11", 1, stake("", CAREFUL, 2, 12, 11));
        LastPenny x = with("", TOLD, 0, 12, 11);
        x.row(0, 3, 9);
        due("TOLD 9 at 11", 1, x.of(0, 4));
    }

    private static void stakeNoMoreThanLimit() {
        says(TERMS, "Then it is no more than PURSE, than GOAL less PURSE, than limit.");
        for (int limit = 1; limit <= 6; limit++) {
            due("BOLD 6 by limit " + limit, limit, stake("limit " + limit, BOLD, 0, 12, 6));
            due("TIMID 3 by limit " + limit, Math.min(3, limit), stake("limit " + limit, TIMID, 2, 12, 6));
            due("SYSTEM 6 by limit " + limit, Math.min(5, limit), stake("limit " + limit, SYSTEM, 9, 12, 5));
            due("DRUNK 3 by limit " + limit, Math.min(3, limit), stake("limit " + limit, DRUNK, 0, 12, 6));
            due("CAREFUL 2 by limit " + limit, Math.min(2, limit), stake("limit " + limit, CAREFUL, 2, 12, 8));
            LastPenny x = with("limit " + limit, TOLD, 0, 12, 6);
            x.row(0, 2, 5);
            due("TOLD 5 by limit " + limit, Math.min(5, limit), x.of(0, 4));
        }
        due("limit 7", 6, stake("limit 7", BOLD, 0, 12, 6));
    }

    private static void throwsToTheEdges() {
        says(TERMS, "A THROW of a player who is not OVER: PURSE is STAKE more, if it is won, else STAKE less.");
        due("won to GOAL", 12, with("", BOLD, 0, 12, 6).play(0, true));
        due("lost to 0", 0, with("", BOLD, 0, 12, 6).play(0, false));
        due("won to below GOAL", 11, with("limit 5", BOLD, 0, 12, 6).play(0, true));
        due("lost to above 0", 1, with("limit 5", BOLD, 0, 12, 6).play(0, false));
        due("GOAL 2, won", 2, with("", TIMID, 2, 2, 1).play(0, true));
        due("GOAL 2, lost", 0, with("", TIMID, 2, 2, 1).play(0, false));
    }

    // ---- "Terms", 2: chances

    private static void chancesChangeNothing() {
        says(TERMS, "From how all is (nothing is changed)");
        dueUnchanged(x -> {
            for (int p = 0; p < 3; p++) {
                for (int part = 0; part < 2; part++) {
                    x.within(p, 15, 1, part);
                    x.lasts(p, 15, part);
                    x.mean(p, 15, part);
                    x.ever(p, part);
                    x.bestChance(p, 15, part);
                    x.loses(p, 15, part);
                }
                x.best(p, 15);
                x.room(p, 15);
            }
            x.trio(444, 8, 0, 0);
            x.streak(5, 6, 15, 0);
        });
    }

    private static void chancesDoNotMeet() {
        says(TERMS, "From how all is (nothing is changed)");
        // the rows of one call must not be seen by the next one
        LastPenny x = with("", BOLD, 0, 12, 6);
        x.player(PENNY, 0, 3, 1);
        for (int turn = 0; turn < 2; turn++) {
            dueFraction("within of 12", 1, 2, x.within(0, 15, 12, 0), x.within(0, 15, 12, 1));
            dueFraction("within of 3", 1, 4, x.within(1, 2, 3, 0), x.within(1, 2, 3, 1));
            dueFraction("streak", 1, 8, x.streak(5, 3, 3, 0), x.streak(5, 3, 3, 1));
            dueFraction("ever of 3", 1, 3, x.ever(1, 0), x.ever(1, 1));
            dueFraction("trio", 1, 3, x.trio(111, 1, 2, 0), x.trio(111, 1, 2, 1));
            dueFraction("best of 3", 1, 4, x.bestChance(1, 2, 0), x.bestChance(1, 2, 1));
            dueFraction("best of 12", 1, 2, x.bestChance(0, 15, 0), x.bestChance(0, 15, 1));
            dueFraction("lasts of 3", 3, 2, x.lasts(1, 2, 0), x.lasts(1, 2, 1));
            dueFraction("mean of 12", 6, 1, x.mean(0, 1, 0), x.mean(0, 1, 1));
            due("room of 3", 1, x.room(1, 2));
            due("room of 12", 6, x.room(0, 1));
            due("best of 12", 6, x.best(0, 1));
            due("best of 3", 1, x.best(1, 3));
        }
    }

    private static void within0To15() {
        says(TERMS, "WITHIN n THROWS (0 .. 15) of a player");
        LastPenny x = with("", PENNY, 0, 4, 2);
        for (int q = 0; q <= 4; q++) {
            dueFraction("within 0 of " + q, q == 2 ? 1 : 0, 1, x.within(0, 0, q, 0), x.within(0, 0, q, 1));
        }
        // who is not OVER is at 2 behind each two throws, half as likely each time
        dueFraction("within 1 of 1", 1, 2, x.within(0, 1, 1, 0), x.within(0, 1, 1, 1));
        dueFraction("within 13 of 1", 1, 128, x.within(0, 13, 1, 0), x.within(0, 13, 1, 1));
        dueFraction("within 14 of 2", 1, 128, x.within(0, 14, 2, 0), x.within(0, 14, 2, 1));
        dueFraction("within 15 of 1", 1, 256, x.within(0, 15, 1, 0), x.within(0, 15, 1, 1));
        dueFraction("within 15 of 4", 127, 256, x.within(0, 15, 4, 0), x.within(0, 15, 4, 1));
        due("within 16", NO, x.within(0, 16, 1, 0));
        due("within -1", NO, x.within(0, -1, 1, 0));
    }

    private static void whoIsOverStays() {
        says(TERMS, "(who is OVER stays)");
        for (int goal = 2; goal <= 12; goal += 5) {
            for (int n = 0; n <= 15; n++) {
                LastPenny x = with("lean 4 p<99", BOLD, 0, goal, goal);
                due("has all", 1, x.within(0, n, goal, 0));
                due("has all", 0, x.within(0, n, 0, 0));
                x.purse(0, 0);
                due("has nothing", 1, x.within(0, n, 0, 0));
                due("has nothing", 0, x.within(0, n, goal, 0));
            }
        }
        // the half that has all behind the first throw has it behind the second
        LastPenny y = with("", BOLD, 0, 4, 2);
        dueFraction("stays at GOAL", 1, 2, y.within(0, 9, 4, 0), y.within(0, 9, 4, 1));
        dueFraction("stays at 0", 1, 2, y.within(0, 9, 0, 0), y.within(0, 9, 0, 1));
    }

    private static void lastsOfTheseN() {
        says(TERMS, "LASTS: the mean of how many THROWS are made of these n");
        LastPenny x = with("", PENNY, 0, 4, 2);
        dueFraction("lasts 0", 0, 1, x.lasts(0, 0, 0), x.lasts(0, 0, 1));
        dueFraction("lasts 2", 2, 1, x.lasts(0, 2, 0), x.lasts(0, 2, 1));
        dueFraction("lasts 3", 5, 2, x.lasts(0, 3, 0), x.lasts(0, 3, 1));
        dueFraction("lasts 15", 509, 128, x.lasts(0, 15, 0), x.lasts(0, 15, 1));
        LastPenny y = with("", BOLD, 0, 12, 6);
        dueFraction("OVER behind the first", 1, 1, y.lasts(0, 15, 0), y.lasts(0, 15, 1));
        y.purse(0, 12);
        dueFraction("has all", 0, 1, y.lasts(0, 15, 0), y.lasts(0, 15, 1));
        y.purse(0, 0);
        dueFraction("has nothing", 0, 1, y.lasts(0, 15, 0), y.lasts(0, 15, 1));
    }

    private static void meanAtTheEdges() {
        says(TERMS, "MEAN: the mean of PURSE then");
        LastPenny x = with("lean 4 p=2", PENNY, 0, 4, 2);
        dueFraction("mean 0", 2, 1, x.mean(0, 0, 0), x.mean(0, 0, 1));
        dueFraction("mean 1", 14, 5, x.mean(0, 1, 0), x.mean(0, 1, 1));
        // eight tenths more, and half as likely each time, at the throws 1, 3 .. 15
        dueFraction("mean 15", 115, 32, x.mean(0, 15, 0), x.mean(0, 15, 1));
        x.purse(0, 4);
        dueFraction("has all", 4, 1, x.mean(0, 15, 0), x.mean(0, 15, 1));
        x.purse(0, 0);
        dueFraction("has nothing", 0, 1, x.mean(0, 15, 0), x.mean(0, 15, 1));
    }

    private static void everByPennies() {
        says(TERMS, "EVER of a player, were it to stake 1 always: how likely it has GOAL before it has 0.");
        LastPenny x = with("", BOLD, 0, 12, 0);
        for (int purse = 0; purse <= 12; purse++) {
            x.purse(0, purse);
            long lowest = shared(purse, 12);
            dueFraction("fair, from " + purse, purse / lowest, 12 / lowest, x.ever(0, 0), x.ever(0, 1));
        }
        LastPenny y = with("lean 4 s=1;tilt 4 s>1", BOLD, 0, 4, 2);
        // by pennies each is won by 9 of ten
        dueFraction("odds of a penny", 81, 82, y.ever(0, 0), y.ever(0, 1));
        LastPenny z = with("limit 2", TIMID, 2, 2, 1);
        dueFraction("GOAL 2", 1, 2, z.ever(0, 0), z.ever(0, 1));
        // nine to the 12th less 9, by nine to the 12th less 1, and both by 8
        LastPenny most = with("lean 99 p<99", PENNY, 0, 12, 11);
        dueFraction("the greatest numbers", 35303692059L, 35303692060L, most.ever(0, 0), most.ever(0, 1));
    }

    private static void dueLowest(String call, long above, long below) {
        due(call + ": below the line is positive", 1, below > 0 ? 1 : 0);
        due(call + ": above is not negative", 1, above >= 0 ? 1 : 0);
        due(call + ": " + above + "/" + below + " in lowest terms", 1, shared(above, below));
    }

    private static void lowestTerms() {
        says(TERMS, "(All fractions in lowest terms.)");
        for (int purse = 0; purse <= 6; purse++) {
            LastPenny x = with("lean 1 p=2;tilt 3 p=4;lean 3 s=2", TOLD, 3, 6, purse);
            for (int n = 0; n <= 15; n += 5) {
                for (int q = 0; q <= 6; q++) {
                    dueLowest("within", x.within(0, n, q, 0), x.within(0, n, q, 1));
                }
                dueLowest("lasts", x.lasts(0, n, 0), x.lasts(0, n, 1));
                dueLowest("mean", x.mean(0, n, 0), x.mean(0, n, 1));
                dueLowest("bestChance", x.bestChance(0, n, 0), x.bestChance(0, n, 1));
                dueLowest("loses", x.loses(0, n, 0), x.loses(0, n, 1));
                dueLowest("streak", x.streak(purse, 2, n, 0), x.streak(purse, 2, n, 1));
                dueLowest("trio", x.trio(213, n / 2, 1, 0), x.trio(213, n / 2, 1, 1));
            }
            dueLowest("ever", x.ever(0, 0), x.ever(0, 1));
        }
    }

    // ---- "Terms", 2: BEST, LOSES, ROOM

    private static void best0To15() {
        says(TERMS, "BEST of a player in n THROWS (0 .. 15)");
        LastPenny x = with("limit 1", BOLD, 0, 4, 1);
        dueFraction("chance in 0", 0, 1, x.bestChance(0, 0, 0), x.bestChance(0, 0, 1));
        dueFraction("chance in 2", 0, 1, x.bestChance(0, 2, 0), x.bestChance(0, 2, 1));
        dueFraction("chance in 3", 1, 8, x.bestChance(0, 3, 0), x.bestChance(0, 3, 1));
        dueFraction("chance in 14", 63, 256, x.bestChance(0, 14, 0), x.bestChance(0, 14, 1));
        dueFraction("chance in 15", 127, 512, x.bestChance(0, 15, 0), x.bestChance(0, 15, 1));
        due("best in 15", 1, x.best(0, 15));
        due("best in 16", BAD, x.best(0, 16));
        due("best in -1", BAD, x.best(0, -1));
        due("chance in 16", NO, x.bestChance(0, 16, 0));
        due("chance in -1", NO, x.bestChance(0, -1, 0));
    }

    private static void bestFrom1ToTheLeast() {
        says(TERMS, "any stake from 1 to the least of PURSE, GOAL less PURSE, limit may be taken");
        // the greatest stake that may be taken is better than a lesser one; a greater one would be better still
        for (int purse = 1; purse < 12; purse++) {
            for (int limit = 1; limit <= 7; limit++) {
                int want = Math.min(limit, Math.min(purse, 12 - purse));
                String odds = ";lean 3 s=" + want + "&p=" + purse + ";lean 4 s>" + want + "&p=" + purse
                    + ";tilt 4 s<" + want + "&p=" + purse;
                LastPenny x = with("limit " + limit + odds, PENNY, 0, 12, purse);
                due("best at " + purse + " by limit " + limit, want, bestToClimb(x, want));
            }
        }
        due("1 is among them", 1, with("lean 4 s=1;tilt 4 s>1", BOLD, 0, 4, 2).best(0, 2));
        due("6 is among them", 6, with("", PENNY, 0, 12, 6).best(0, 1));
        due("by limit 5 it is not", 1, with("limit 5", PENNY, 0, 12, 6).best(0, 1));
    }

    /** The best stake in as many throws as stakes of that size need to have all. */
    private static int bestToClimb(LastPenny x, int stake) {
        int rest = x.of(0, 2) - x.of(0, 3);
        return x.best(0, (rest + stake - 1) / stake);
    }

    private static void bestOfSeveral() {
        says(TERMS, "its first stake (of several the least; 0: it is OVER, or n is 0)");
        due("none helps", 1, with("", BOLD, 0, 12, 5).best(0, 1));
        due("none helps", 1, with("", BOLD, 0, 12, 1).best(0, 3));
        // fair, from 4 of 8: a half by 4 at once, by 2 if three throws are left, by 1 if four are
        LastPenny x = with("", PENNY, 0, 8, 4);
        due("4 alone", 4, x.best(0, 2));
        due("2 and 4 alike", 2, x.best(0, 3));
        due("1, 2 and 4 alike", 1, x.best(0, 4));
        // 2 by 8 of ten and then 1 by 5 of ten, or 3 by 4 of ten
        due("2 and 3 alike", 2, with("lean 3 s=2&p=3;tilt 1 s=3;tilt 4 s=1&p=3", PENNY, 0, 6, 3).best(0, 2));
    }

    private static void bestIs0() {
        says(TERMS, "its first stake (of several the least; 0: it is OVER, or n is 0)");
        LastPenny x = with("", BOLD, 0, 12, 0);
        for (int n = 0; n <= 15; n++) {
            x.purse(0, 0);
            due("has nothing, in " + n, 0, x.best(0, n));
            x.purse(0, 12);
            due("has all, in " + n, 0, x.best(0, n));
            x.purse(0, 11);
            due("not OVER, in " + n, n == 0 ? 0 : 1, x.best(0, n));
        }
    }

    private static void bestIs0BehindOthers() {
        says(TERMS, "its first stake (of several the least; 0: it is OVER, or n is 0)");
        LastPenny x = with("", BOLD, 0, 12, 6);
        x.player(BOLD, 0, 7, 7);
        due("in 1", 6, x.best(0, 1));
        due("in 0", 0, x.best(0, 0));
        x.purse(0, 7);
        due("not OVER at 7 of 12", 5, x.best(0, 1));
        due("OVER at 7 of 7", 0, x.best(1, 1));
    }

    private static void bestChanceOfWhoIsOver() {
        says(TERMS, "the greatest chance to have GOAL within these");
        LastPenny x = with("tilt 4 p<99", BOLD, 0, 12, 12);
        dueFraction("has all in 0", 1, 1, x.bestChance(0, 0, 0), x.bestChance(0, 0, 1));
        dueFraction("has all in 15", 1, 1, x.bestChance(0, 15, 0), x.bestChance(0, 15, 1));
        x.purse(0, 0);
        dueFraction("has nothing in 0", 0, 1, x.bestChance(0, 0, 0), x.bestChance(0, 0, 1));
        dueFraction("has nothing in 15", 0, 1, x.bestChance(0, 15, 0), x.bestChance(0, 15, 1));
        x.purse(0, 11);
        dueFraction("not yet in 0", 0, 1, x.bestChance(0, 0, 0), x.bestChance(0, 0, 1));
        dueFraction("in 1", 1, 10, x.bestChance(0, 1, 0), x.bestChance(0, 1, 1));
    }

    private static void losesFrom0On() {
        says(TERMS, "LOSES in n: that chance less the chance of WITHIN that PURSE is GOAL.");
        LastPenny x = with("", PENNY, 0, 4, 2);
        dueFraction("in 0", 0, 1, x.loses(0, 0, 0), x.loses(0, 0, 1));
        dueFraction("in 1: all of it", 1, 2, x.loses(0, 1, 0), x.loses(0, 1, 1));
        dueFraction("in 13", 1, 128, x.loses(0, 13, 0), x.loses(0, 13, 1));
        dueFraction("in 15", 1, 256, x.loses(0, 15, 0), x.loses(0, 15, 1));
        LastPenny y = with("limit 1", PENNY, 0, 4, 2);
        dueFraction("nothing, by limit 1", 0, 1, y.loses(0, 15, 0), y.loses(0, 15, 1));
        x.purse(0, 4);
        dueFraction("has all", 0, 1, x.loses(0, 15, 0), x.loses(0, 15, 1));
        x.purse(0, 0);
        dueFraction("has nothing", 0, 1, x.loses(0, 15, 0), x.loses(0, 15, 1));
    }

    private static void room1To6() {
        says(TERMS, "ROOM in n: the least limit (1 .. 6), in place of the TABLE's, by which the chance of BEST"
            + " is as with 99.");
        for (int half = 1; half <= 6; half++) {
            // in one throw the half is the one stake that helps
            due("half of " + 2 * half, half, with("", PENNY, 0, 2 * half, half).room(0, 1));
        }
        LastPenny x = with("", PENNY, 0, 12, 6);
        due("in 0", 1, x.room(0, 0));
        x.purse(0, 5);
        due("none helps", 1, x.room(0, 1));
        x.purse(0, 12);
        due("has all", 1, x.room(0, 15));
        x.purse(0, 0);
        due("has nothing", 1, x.room(0, 15));
        due("in 15", 2, with("", PENNY, 0, 4, 2).room(0, 15));
        due("pennies are best", 1, with("lean 4 s=1;tilt 4 s>1", PENNY, 0, 4, 2).room(0, 2));
    }

    private static void roomInPlaceOfTheLimit() {
        says(TERMS, "the least limit (1 .. 6), in place of the TABLE's");
        due("a lesser limit", 6, with("limit 1", PENNY, 0, 12, 6).room(0, 1));
        due("a limit of 0", 6, with("limit 0", PENNY, 0, 12, 6).room(0, 1));
        due("the same limit", 6, with("limit 6", PENNY, 0, 12, 6).room(0, 1));
        due("a greater limit", 1, with("limit 6", PENNY, 0, 12, 11).room(0, 1));
        due("its leans stay", 1, with("limit 1;lean 4 s=1;tilt 4 s=2", PENNY, 0, 4, 2).room(0, 2));
        LastPenny x = with("limit 1", BOLD, 0, 12, 6);
        x.room(0, 15);
        due("the limit stays", 1, x.told(1));
        due("the limit stays", 1, x.best(0, 15));
    }

    // ---- "Terms", 2: TRIO, STREAK

    private static void trio1To4() {
        says(TERMS, "three have a, b, c pennies (1 .. 4 each)");
        for (int abc = -1200; abc <= 1200; abc++) {
            boolean is = abc >= 111 && abc <= 444 && String.valueOf(abc).matches("[1-4]{3}");
            due("abc " + abc, is ? 1 : NO, new LastPenny().trio(abc, 0, 0, 1));
        }
        for (int abc : new int[] {MIN, MAX, 10111, 11111, 65536 + 111, -65536 + 111, -111, -444, 4444}) {
            due("abc " + abc, NO, new LastPenny().trio(abc, 0, 0, 1));
        }
    }

    /** Of the six ways, thrown n times, in how many of all who is out. */
    private static long waysOut(int[] has, int n, int who) {
        for (int i = 0; i < 3; i++) {
            if (has[i] == 0) {
                return i == who ? (long) Math.pow(6, n) : 0;
            }
        }
        long ways = 0;
        for (int giver = 0; giver < 3 && n > 0; giver++) {
            for (int taker = 0; taker < 3; taker++) {
                if (giver != taker) {
                    int[] then = has.clone();
                    then[giver]--;
                    then[taker]++;
                    ways += waysOut(then, n - 1, who);
                }
            }
        }
        return ways;
    }

    private static void dueTrio(int a, int b, int c, int n) {
        long all = (long) Math.pow(6, n);
        for (int who = 0; who < 3; who++) {
            long ways = waysOut(new int[] {a, b, c}, n, who);
            LastPenny x = new LastPenny();
            int abc = 100 * a + 10 * b + c;
            dueFraction("trio " + abc + " in " + n + " of " + who, ways / shared(ways, all), all / shared(ways, all),
                x.trio(abc, n, who, 0), x.trio(abc, n, who, 1));
        }
    }

    private static void trioTillOneIsOut() {
        says(TERMS, "till one has nothing (is OUT)");
        LastPenny x = new LastPenny();
        for (int who = 0; who < 3; who++) {
            // the first throw ends it, so later ones add nothing
            dueFraction("1 1 1 in 1", 1, 3, x.trio(111, 1, who, 0), x.trio(111, 1, who, 1));
            dueFraction("1 1 1 in 8", 1, 3, x.trio(111, 8, who, 0), x.trio(111, 8, who, 1));
        }
        dueTrio(1, 2, 2, 2);
        dueTrio(2, 1, 4, 3);
        dueTrio(4, 1, 1, 5);
        dueTrio(1, 4, 4, 6);
    }

    private static void trio0To8() {
        says(TERMS, "is OUT within n throws (0 .. 8)");
        LastPenny x = new LastPenny();
        for (int who = 0; who < 3; who++) {
            dueFraction("in 0", 0, 1, x.trio(111, 0, who, 0), x.trio(111, 0, who, 1));
            dueFraction("4 4 4 in 3", 0, 1, x.trio(444, 3, who, 0), x.trio(444, 3, who, 1));
            dueFraction("4 4 4 in 4", 1, 81, x.trio(444, 4, who, 0), x.trio(444, 4, who, 1));
        }
        dueTrio(4, 4, 4, 7);
        dueTrio(4, 4, 4, 8);
        dueTrio(1, 2, 3, 8);
        dueTrio(4, 1, 3, 8);
        due("in 9", NO, x.trio(111, 9, 0, 0));
        due("in -1", NO, x.trio(111, -1, 0, 0));
    }

    /** How likely, of ten to the n, there are r losses one behind the other: all rows of n throws gone through. */
    private static long streaksOf(int o, int r, int n) {
        long sum = 0;
        for (int row = 0; row < 1 << n; row++) {
            long weight = 1;
            int losses = 0;
            boolean is = false;
            for (int i = 0; i < n; i++) {
                boolean won = (row >> i & 1) == 1;
                weight *= won ? o : 10 - o;
                losses = won ? 0 : losses + 1;
                is |= losses == r;
            }
            sum += is ? weight : 0;
        }
        return sum;
    }

    private static void dueStreak(int o, int r, int n) {
        long all = (long) Math.pow(10, n);
        long sum = streaksOf(o, r, n);
        LastPenny x = new LastPenny();
        dueFraction("streak " + o + " " + r + " " + n, sum / shared(sum, all), all / shared(sum, all),
            x.streak(o, r, n, 0), x.streak(o, r, n, 1));
    }

    private static void streakOf1To6() {
        says(TERMS, "r losses (1 .. 6) one behind the other");
        for (int r = 1; r <= 6; r++) {
            dueStreak(5, r, 10);
            dueStreak(3, r, r);
            dueStreak(3, r, r - 1);
            dueStreak(3, r, r + 1);
        }
        for (int r : outside(1, 6)) {
            due("r " + r, NO, new LastPenny().streak(5, r, 15, 0));
        }
    }

    private static void streakIn0To15() {
        says(TERMS, "within n throws (0 .. 15), each won");
        for (int n = 0; n <= 15; n++) {
            dueStreak(7, 2, n);
            dueStreak(1, 6, n);
        }
        for (int n : outside(0, 15)) {
            due("n " + n, NO, new LastPenny().streak(5, 1, n, 0));
        }
    }

    private static void streakByOdds0To10() {
        says(TERMS, "each won with odds of o of ten (0 .. 10)");
        for (int o = 0; o <= 10; o++) {
            dueStreak(o, 3, 9);
        }
        LastPenny x = new LastPenny();
        dueFraction("all are lost", 1, 1, x.streak(0, 6, 6, 0), x.streak(0, 6, 6, 1));
        dueFraction("all are lost, too few", 0, 1, x.streak(0, 6, 5, 0), x.streak(0, 6, 5, 1));
        dueFraction("none is lost", 0, 1, x.streak(10, 1, 15, 0), x.streak(10, 1, 15, 1));
        for (int o : outside(0, 10)) {
            due("o " + o, NO, x.streak(o, 1, 1, 0));
        }
    }

    // ---- "Terms", 2: THROWS told by hand

    private static void throws24AtMost() {
        says(TERMS, "THROWS told by hand (won or not; 24 at most; none at first)");
        LastPenny x = with("", PENNY, 0, 12, 6);
        due("none at first", 0, x.count(2));
        due("none at first", 0, x.clear());
        for (int i = 1; i <= 24; i++) {
            due("the " + i + "th", i, x.toss(i % 2 == 0));
        }
        due("a 25th", FULL, x.toss(true));
        due("24 stay", 24, x.count(2));
        due("all are gone through", 24, x.by(0, 1));
        due("the 25th is none of them", 6, x.by(0, 0));
        due("the 24th is the last", 24, x.by(0, 4));
        due("SEEMS", 5, x.seen(0));
    }

    private static void goneThroughTillOver() {
        says(TERMS, "gone through by a player from how it is till it is OVER");
        LastPenny x = with("", PENNY, 0, 6, 3);
        dueBy(x, "", 3, 0, 3, 3, 0);
        dueBy(x, "+++", 6, 3, 6, 3, 0);
        dueBy(x, "+++-", 6, 3, 6, 3, 0);
        dueBy(x, "---", 0, 3, 3, 0, 0);
        dueBy(x, "---+++", 0, 3, 3, 0, 0);
        dueBy(x, "++---++", 4, 7, 5, 2, 6);
        x.purse(0, 6);
        dueBy(x, "---", 6, 0, 6, 6, 0);
        x.purse(0, 0);
        dueBy(x, "+++", 0, 0, 0, 0, 0);
        x.purse(0, 1);
        dueBy(x, "-+", 0, 1, 1, 0, 0);
        x.purse(0, 5);
        dueBy(x, "+-", 6, 1, 6, 5, 0);
    }

    private static void goneThroughByStakes() {
        says(TERMS, "gone through by a player from how it is till it is OVER");
        LastPenny x = with("limit 4", BOLD, 0, 12, 5);
        // 5, 9, 6, 10, 12
        dueBy(x, "+-++-", 12, 4, 12, 5, 0);
        // 5, 1, 2, 4, 0
        dueBy(x, "-++-", 0, 4, 5, 0, 0);
        due("PURSE stays", 5, x.of(0, 3));
    }

    private static void endsAndMadeOfNoneAndOfAll() {
        says(TERMS, "ENDS: PURSE then; MADE: how many were made");
        LastPenny x = with("", PENNY, 0, 12, 6);
        dueBy(x, "", 6, 0);
        dueBy(x, "-", 5, 1);
        dueBy(x, "+-".repeat(11) + "++", 8, 24);
        dueBy(x, "+".repeat(6), 12, 6);
        dueBy(x, "+".repeat(7), 12, 6);
        dueBy(x, "-".repeat(24), 0, 6);
        dueBy(x, "+-".repeat(9) + "++++++", 12, 24);
        dueBy(x, "+-".repeat(9) + "+++++-", 10, 24);
    }

    private static void topAndLowWithTheFirst() {
        says(TERMS, "TOP, LOW: the greatest, the least PURSE (that at first, too)");
        LastPenny x = with("", PENNY, 0, 12, 6);
        dueBy(x, "", 6, 0, 6, 6, 0);
        dueBy(x, "+", 7, 1, 7, 6, 0);
        dueBy(x, "-", 5, 1, 6, 5, 0);
        dueBy(x, "--", 4, 2, 6, 4, 0);
        dueBy(x, "++--++", 8, 6, 8, 6, 4);
    }

    private static void backFrom1() {
        says(TERMS, "BACK: the latest of them behind which PURSE is as at first (from 1; 0: none)");
        LastPenny x = with("", PENNY, 0, 12, 6);
        dueBy(x, "+-", 6, 2, 7, 6, 2);
        dueBy(x, "+-+-+", 7, 5, 7, 6, 4);
        dueBy(x, "++", 8, 2, 8, 6, 0);
        dueBy(x, "", 6, 0, 6, 6, 0);
        dueBy(x, "+-+-+-+-+-+-+-+-+-+-+-+-", 6, 24, 7, 6, 24);
        // 2, 4, 2, 4, 6 by stakes of 2
        LastPenny y = with("", TIMID, 1, 6, 2);
        dueBy(y, "+-+", 4, 3, 4, 2, 2);
        dueBy(y, "+-++-", 6, 4, 6, 2, 2);
        dueBy(y, "-+", 0, 1, 2, 0, 0);
    }

    private static void seemsTheLeastOfSeveral() {
        says(TERMS, "is least (of several the least; -5: there are none)");
        LastPenny x = new LastPenny();
        String[] runs = {"+", "-", "+-", "+---", "+++-", "++-", "+--", "+" + "-".repeat(19), "+++" + "-".repeat(17),
            "+".repeat(19) + "-", "+".repeat(24), "-".repeat(24), "-".repeat(23) + "+", "+".repeat(23) + "-",
            "+++++++--------"};
        int[] want = {10, 0, 5, 2, 7, 7, 3, 0, 1, 9, 10, 0, 0, 10, 5};
        for (int i = 0; i < runs.length; i++) {
            tossAll(x, runs[i]);
            due("SEEMS of " + runs[i], want[i], x.seen(0));
        }
    }

    private static void seems0To10() {
        says(TERMS, "SEEMS: the o (0 .. 10) such that");
        for (int all = 1; all <= 24; all++) {
            LastPenny x = new LastPenny();
            tossAll(x, "-".repeat(all));
            due("all " + all + " lost", 0, x.seen(0));
            tossAll(x, "+".repeat(all));
            due("all " + all + " won", 10, x.seen(0));
        }
        LastPenny y = new LastPenny();
        for (int won = 0; won <= 10; won++) {
            tossAll(y, "+".repeat(won) + "-".repeat(10 - won));
            due(won + " of ten won", won, y.seen(0));
        }
    }

    private static void seemsOfNone() {
        says(TERMS, "-5: there are none");
        LastPenny x = new LastPenny();
        due("at first", -5, x.seen(0));
        x.toss(false);
        due("of one", 0, x.seen(0));
        x.clear();
        due("cleared", -5, x.seen(0));
    }

    private static void runOfThrows() {
        says(TERMS, "RUN: the longest row of THROWS that are alike.");
        LastPenny x = new LastPenny();
        String[] runs = {"", "+", "-", "+-", "++-", "-++", "+--", "++--+++", "---++", "-+-+-+", "+".repeat(24),
            "-".repeat(24), "+" + "-".repeat(23), "-".repeat(23) + "+"};
        int[] want = {0, 1, 1, 1, 2, 2, 2, 3, 3, 1, 24, 24, 23, 23};
        for (int i = 0; i < runs.length; i++) {
            tossAll(x, runs[i]);
            due("RUN of '" + runs[i] + "'", want[i], x.seen(1));
        }
    }

    // ---- "Terms", 2: ACTS, THE TRACE, THE IMAGE

    private static void actsWrap() {
        says(TERMS, "ACTS of a player with x (ints, wrapping)");
        dueAct(numbered(3, PENNY, 0), 3, 0, MAX, MIN + 2);
        dueAct(numbered(0, PENNY, 9), 0, 1, MIN, MAX - 8);
        dueAct(numbered(0, PENNY, 0), 0, 2, 1 << 30, MIN);
        dueAct(numbered(0, PENNY, 0), 0, 2, MIN, 0);
        dueAct(numbered(0, PENNY, 0), 0, 2, MAX, -2);
        dueAct(numbered(0, BOLD, 0), 0, 0, 0x55555556, 2);
        dueAct(numbered(0, BOLD, 0), 0, 0, MAX, MAX - 2);
        dueAct(numbered(0, BOLD, 0), 0, 0, MIN, MIN);
        dueAct(numbered(0, TIMID, 0), 0, 1, MIN, MIN);
        dueAct(numbered(0, SYSTEM, 0), 0, 2, MIN, 7);
        dueAct(numbered(0, SYSTEM, 0), 0, 2, -1, -7);
        // x - 1 is MAX, three times that MAX - 2, twice that -6, and 6
        dueAct(numbered(0, DRUNK, 0), 0, 2, MIN, 0);
        dueAct(numbered(0, DRUNK, 0), 0, 2, 357913942, MIN + 4);
        dueAct(numbered(3, CAREFUL, 0), 3, 0, MAX, MIN + 1);
        dueAct(numbered(0, TOLD, 9), 0, 1, MIN, MIN);
    }

    private static void theNextKindAbove() {
        says(TERMS, "the body of its KIND, or, if that has none, of the next KIND above that has one");
        int[][] first = {{1, 2, 3}, {11, 2, 3}, {1, 21, 3}, {1, 2, 31}, {11, 2, 41}, {51, 21, 3}, {1, 61, 31}};
        for (int kind = 0; kind <= 6; kind++) {
            for (int act = 0; act <= 2; act++) {
                LastPenny x = numbered(1, kind, 4);
                x.act(1, act, 5);
                due("act " + act + " of KIND " + kind + " begins", first[kind][act], x.trace(0));
            }
        }
    }

    private static void bodiesCallWhatIsOfItsKind() {
        says(TERMS, "the body of its KIND, or, if that has none, of the next KIND above that has one");
        LastPenny x = numbered(2, DRUNK, 4);
        dueAct(x, 2, 1, 5, 15 + 2 - 4);
        dueTrace(x, 2, 11, 1);
        x = numbered(2, CAREFUL, 4);
        dueAct(x, 2, 2, 5, -((7 ^ 2) - 4) * 2);
        dueTrace(x, 3, 21, 2, 51, 1);
        x = numbered(2, TOLD, 4);
        dueAct(x, 2, 2, 5, 14 ^ 7);
        dueTrace(x, 31, 3, 61, 2, 1);
        x = numbered(2, SYSTEM, 4);
        dueAct(x, 2, 2, 5, 6 ^ 7);
        dueTrace(x, 31, 3, 2, 1);
        x = numbered(2, TIMID, 4);
        dueAct(x, 2, 2, 5, -6);
        dueTrace(x, 3, 21, 2, 1);
    }

    private static void superFromTheBodysKindOn() {
        says(TERMS, "super.stakes(..): so from the KIND above the body's on");
        // BOLD's body goes on above BOLD, be the player a DRUNK one
        LastPenny x = numbered(2, DRUNK, 4);
        dueAct(x, 2, 0, 5, 17);
        dueTrace(x, 11, 1);
        // TIMID has no stakes, SYSTEM no throws: the next above has
        x = numbered(2, CAREFUL, 4);
        dueAct(x, 2, 0, 5, 7 ^ 2);
        dueTrace(x, 51, 1);
        dueAct(x, 2, 1, 5, -((7 ^ 2) - 4));
        dueTrace(x, 21, 2, 51, 1);
        x = numbered(2, TOLD, 4);
        dueAct(x, 2, 1, 5, 7);
        dueTrace(x, 61, 2, 1);
    }

    private static void doneFromTheLeft() {
        says(TERMS, "what stands in a body is done from the left on");
        LastPenny x = numbered(2, DRUNK, 4);
        dueAct(x, 2, 2, 5, (12 + 2 - 4) * 2 + 8);
        dueTrace(x, 41, 3, 2, 11, 1, 11, 1);
    }

    private static void traceOfTheLatest() {
        says(TERMS, "THE TRACE: the numbers of the bodies that ran in the latest act(), as they began");
        LastPenny x = numbered(3, DRUNK, 4);
        dueTrace(x);
        x.act(3, 2, 5);
        dueTrace(x, 41, 3, 2, 11, 1, 11, 1);
        x.act(3, 0, 5);
        dueTrace(x, 11, 1);
        x.act(0, 2, 5);
        dueTrace(x, 3, 2, 1);
        x.play(3, true);
        x.within(3, 15, 0, 0);
        dueTrace(x, 3, 2, 1);
    }

    private static void first20AreKept() {
        says(TERMS, "the first 20 are kept");
        // no act has more than seven bodies, so that all are kept
        int most = 0;
        for (int kind = 0; kind <= 6; kind++) {
            for (int act = 0; act <= 2; act++) {
                LastPenny x = numbered(0, kind, 4);
                x.act(0, act, 5);
                int ran = x.count(4);
                most = Math.max(most, ran);
                for (int i = 0; i < 25; i++) {
                    due("body " + i + " is kept", i < ran ? 1 : 0, x.trace(i) > 0 ? 1 : 0);
                }
            }
        }
        due("the most bodies", 7, most);
    }

    /** An object with an image of it, on which the calls are made; then all is as the image. */
    private static void dueUndone(String what, Consumer<LastPenny> calls) {
        LastPenny x = busy();
        String before = looks(x);
        due("image", 3, x.image());
        calls.accept(x);
        due("undo of " + what, 3, x.undo());
        dueSame("undo of " + what, before, looks(x));
        due("the tape", 1, read(x, "t 7"));
        due("its limit", 7, x.told(1));
    }

    private static void imageOfAll() {
        says(TERMS, "THE IMAGE: all that there is (but THE IMAGE and THE TRACE).");
        dueUndone("nothing", x -> { });
        dueUndone("a sign", x -> x.feed('x'));
        dueUndone("a fault", x -> x.table());
        dueUndone("another tape", x -> {
            x.table();
            feedAll(x, "xxxx");
        });
        dueUndone("a table", x -> read(x, "t 5;tilt 3 p>0"));
        dueUndone("all tables", x -> {
            x.table();
            for (int i = 1; i < 5; i++) {
                due("table " + i, i, read(x, "limit " + i));
            }
        });
        dueUndone("a day", x -> x.day(1));
        dueUndone("a player", x -> x.player(CAREFUL, 1, 3, 2));
        dueUndone("a purse", x -> x.purse(0, 12));
        dueUndone("a row", x -> x.row(1, 2, 8));
        dueUndone("a throw", x -> x.play(0, true));
        dueUndone("throws", x -> tossAll(x, "-+-+-+"));
        dueUndone("one more throw", x -> x.toss(true));
        dueUndone("no throws", x -> x.clear());
        dueUndone("undo", x -> x.undo());
    }

    private static void imageOfTheMost() {
        says(TERMS, "THE IMAGE: all that there is (but THE IMAGE and THE TRACE).");
        LastPenny x = new LastPenny();
        for (int player = 0; player < 4; player++) {
            x.player(TOLD, player, 12, 6 + player);
            for (int k = 0; k < 4; k++) {
                x.row(player, k, 1 + player + k);
            }
        }
        for (int i = 1; i < 5; i++) {
            read(x, "limit " + i);
        }
        tossAll(x, "+".repeat(23) + "-");
        feedAll(x, ofHundred('9'));
        String before = looks(x);
        due("image", 4, x.image());
        due("the tape of 100", 4, x.table());
        feedAll(x, "x".repeat(20));
        tossAll(x, "-".repeat(24));
        for (int player = 0; player < 4; player++) {
            x.purse(player, player);
            for (int k = 0; k < 4; k++) {
                x.row(player, k, 0);
            }
        }
        due("undo", 4, x.undo());
        dueSame("undo", before, looks(x));
        due("the tape of 100", 4, x.table());
        due("all of it is read", 8, x.of(2, 5));
    }

    private static void imageNotOfTheImage() {
        says(TERMS, "THE IMAGE: all that there is (but THE IMAGE and THE TRACE).");
        LastPenny x = with("", PENNY, 0, 12, 6);
        due("image", 1, x.image());
        x.purse(0, 7);
        due("a newer image", 1, x.image());
        x.purse(0, 8);
        due("undo", 1, x.undo());
        due("as the newer one", 7, x.of(0, 3));
        due("undo again", 1, x.undo());
        due("not as the older one", 7, x.of(0, 3));
        x.purse(0, 9);
        due("undo", 1, x.undo());
        due("THE IMAGE stays", 7, x.of(0, 3));
    }

    private static void imageNotOfTheTrace() {
        says(TERMS, "THE IMAGE: all that there is (but THE IMAGE and THE TRACE).");
        LastPenny x = with("", BOLD, 0, 12, 6);
        x.act(0, 0, 1);
        x.image();
        dueTrace(x, 11, 1);
        x.act(0, 1, 1);
        x.undo();
        dueTrace(x, 2, 11, 1);
        x.act(0, 3, 1);
        x.undo();
        dueTrace(x);
    }

    // ---- "Terms", 3: REFUSALS

    private static void theFirstRefusalTold() {
        says(TERMS, "REFUSALS, of several the first one told: NONE there is no such player, KIND, what, part, i;"
            + " BAD a number is not as told; STATE as told; FULL.");
        LastPenny x = full();
        due("feed: BAD ahead of FULL", BAD, x.feed(128));
        due("feed: BAD ahead of FULL", BAD, x.feed(-1));
        due("player: NONE ahead of BAD", NONE, x.player(7, 10, 13, 14));
        due("player: NONE ahead of FULL", NONE, x.player(-1, 0, 12, 6));
        due("player: BAD ahead of FULL", BAD, x.player(0, 10, 12, 6));
        due("player: BAD ahead of FULL", BAD, x.player(0, 0, 13, 6));
        due("player: BAD ahead of FULL", BAD, x.player(0, 0, 12, 13));
        due("purse: NONE ahead of BAD", NONE, x.purse(4, 13));
        due("row: NONE ahead of BAD", NONE, x.row(4, 0, 10));
        due("row: NONE ahead of BAD", NONE, x.row(0, 4, 10));
        due("row: NONE ahead of STATE", NONE, x.row(1, 4, 0));
        due("row: BAD ahead of STATE", BAD, x.row(1, 0, 10));
        due("best: NONE ahead of BAD", NONE, x.best(4, 16));
        due("room: NONE ahead of BAD", NONE, x.room(4, 16));
        due("as: NONE ahead of -6", NONE, x.as(1, 7));
        due("as: NONE ahead of -6", NONE, x.as(4, 6));
    }

    private static void refusalsChangeNothing() {
        says(TERMS, "They change nothing.");
        dueUnchanged(x -> {
            due("feed", BAD, x.feed(128));
            due("day", BAD, x.day(10));
            due("told", NONE, x.told(2));
            due("player", NONE, x.player(7, 0, 12, 6));
            due("player", BAD, x.player(0, 10, 12, 6));
            due("player", BAD, x.player(0, 0, 13, 6));
            due("player", BAD, x.player(0, 0, 12, 13));
            due("of", NONE, x.of(3, 0));
            due("of", NONE, x.of(0, 6));
            due("purse", NONE, x.purse(3, 1));
            due("purse", BAD, x.purse(0, 13));
            due("row", NONE, x.row(3, 2, 1));
            due("row", NONE, x.row(1, 4, 1));
            due("row", BAD, x.row(1, 2, 10));
            due("row", STATE, x.row(0, 2, 1));
            due("play", NONE, x.play(3, true));
            due("play", STATE, x.play(2, false));
            due("best", BAD, x.best(0, 16));
            due("room", BAD, x.room(0, 16));
            due("within", NO, x.within(0, 16, 0, 0));
            due("by", NONE, x.by(0, 5));
            due("seen", NONE, x.seen(2));
            due("trace", NONE, x.trace(20));
            due("as", -6, x.as(0, 2));
            due("undo", STATE, x.undo());
            due("count", NONE, x.count(5));
        });
    }

    /** Four players, five tables, 24 throws, a tape of 100. */
    private static LastPenny full() {
        LastPenny x = new LastPenny();
        for (int i = 1; i <= 5; i++) {
            due("table", i - 1, read(x, "limit " + i));
        }
        for (int i = 0; i < 4; i++) {
            due("player", i, x.player(i == 0 ? TOLD : BOLD, 0, 12, 6));
        }
        for (int i = 0; i < 24; i++) {
            x.toss(i < 20);
        }
        feedAll(x, limits(10) + "x".repeat(21));
        due("signs", 100, x.count(3));
        return x;
    }

    private static void fullChangesNothing() {
        says(TERMS, "They change nothing.");
        LastPenny x = full();
        String before = looks(x);
        due("feed", FULL, x.feed('x'));
        due("table", FULL, x.table());
        due("player", FULL, x.player(PENNY, 0, 2, 1));
        due("toss", FULL, x.toss(true));
        dueSame("looks", before, looks(x));
    }

    private static void partsOfALine() {
        says(TERMS, "part 0 above, 1 below the line");
        LastPenny x = with("", PENNY, 0, 4, 1);
        dueFraction("within", 1, 8, x.within(0, 3, 4, 0), x.within(0, 3, 4, 1));
        dueFraction("lasts", 3, 2, x.lasts(0, 2, 0), x.lasts(0, 2, 1));
        dueFraction("ever", 1, 4, x.ever(0, 0), x.ever(0, 1));
        for (int part : outside(0, 1)) {
            LastPenny y = with("", PENNY, 0, 4, 1);
            due("within", NO, y.within(0, 3, 4, part));
            due("lasts", NO, y.lasts(0, 3, part));
            due("mean", NO, y.mean(0, 3, part));
            due("ever", NO, y.ever(0, part));
            due("bestChance", NO, y.bestChance(0, 3, part));
            due("loses", NO, y.loses(0, 3, part));
            due("trio", NO, y.trio(111, 1, 0, part));
            due("streak", NO, y.streak(5, 1, 1, part));
        }
    }

    // ---- promises 1 to 10: tables, players

    private static void nobodyNoTable() {
        says(1, "`LastPenny()`: Nobody, no TABLE.");
        LastPenny x = new LastPenny();
        for (int what = 0; what <= 4; what++) {
            due("count " + what, 0, x.count(what));
        }
        for (int player = -1; player <= 4; player++) {
            due("of " + player, NONE, x.of(player, 0));
            due("ever of " + player, NO, x.ever(player, 0));
        }
        due("limit", 99, x.told(1));
        due("DAY", 0, x.told(0));
        due("no image", STATE, x.undo());
        due("no trace", NONE, x.trace(0));
        due("the first table", 0, read(x, "limit 1"));
        due("the first player", 0, x.player(PENNY, 0, 2, 1));
        LastPenny y = new LastPenny();
        due("another one has none of it", 0, y.count(0));
        due("another one has none of it", 99, y.told(1));
    }

    private static void feed0To127() {
        says(2, "A sign (0 .. 127) comes behind THE TAPE's: how many it has.");
        LastPenny x = new LastPenny();
        for (int sign = 0; sign < 100; sign++) {
            due("sign " + sign, sign + 1, x.feed(sign));
        }
        LastPenny y = new LastPenny();
        for (int sign = 28; sign <= 127; sign++) {
            due("sign " + sign, sign - 27, y.feed(sign));
        }
        due("signs come behind", 0, read(new LastPenny(), "limit 1"));
        fault(0, "1 timil");
    }

    private static void feedBad() {
        says(2, "BAD; FULL.");
        for (int sign : outside(0, 127)) {
            LastPenny x = new LastPenny();
            due("sign " + sign, BAD, x.feed(sign));
            due("signs", 0, x.count(3));
            feedAll(x, "limit");
            due("sign " + sign, BAD, x.feed(sign));
            due("signs", 5, x.count(3));
            due("it is not on the tape", 0, read(x, " 4"));
        }
    }

    private static void feedFull() {
        says(2, "BAD; FULL.");
        LastPenny x = new LastPenny();
        feedAll(x, "limit 1" + "x".repeat(92));
        due("the 100th", 100, x.feed('x'));
        due("the 101st", FULL, x.feed('x'));
        due("the 102nd", FULL, x.feed(0));
        due("signs", 100, x.count(3));
        due("table", -17, x.table());
        due("an empty tape takes signs again", 1, x.feed('x'));
    }

    private static void tapeIsEmptyThen() {
        says(3, "THE TAPE, which is empty then, is a TABLE, and holds: its number");
        LastPenny x = new LastPenny();
        due("the first", 0, read(x, "limit 4"));
        due("the tape is empty", 0, x.count(3));
        due("it holds", 4, x.told(1));
        due("an empty tape is none", -10, x.table());
        due("the second", 1, read(x, "limit 5"));
        due("the tape is empty", 0, x.count(3));
        due("it holds", 5, x.told(1));
        due("the next sign is the first", 1, x.feed('l'));
    }

    private static void faultOfATable() {
        says(3, "-10 less the FAULT (the one that held holds)");
        LastPenny x = with("limit 4;lean 1 p=5", BOLD, 0, 12, 5);
        due("a fault at 0", -10, read(x, "x"));
        due("a fault at 18", -28, read(x, "limit 2;tilt 3 p=5~"));
        due("a fault at 99", -109, read(x, ofHundred('x')));
        due("a fault at 100", -110, read(x, "lean 1 " + "(p=1)&".repeat(15) + "(p="));
        due("the tape is empty", 0, x.count(3));
        due("the one that held holds: limit", 4, x.told(1));
        due("the one that held holds: STAKE", 4, x.of(0, 4));
        due("the one that held holds: ODDS", 6, x.of(0, 5));
        due("TABLES", 1, x.count(1));
        due("the next number", 1, read(x, "limit 9"));
    }

    private static void tableFull() {
        says(3, "FULL (THE TAPE stays)");
        LastPenny x = new LastPenny();
        x.image();
        for (int i = 0; i < 5; i++) {
            due("table " + i, i, read(x, "limit " + (i + 1)));
        }
        due("an empty tape", FULL, x.table());
        due("a sixth", FULL, read(x, "limit 8"));
        due("THE TAPE stays", 7, x.count(3));
        due("the fifth holds", 5, x.told(1));
        due("THE TAPE goes on", 8, x.feed('x'));
        due("a fault, too", FULL, x.table());
        due("THE TAPE stays", 8, x.count(3));
        due("TABLES", 5, x.count(1));
        x.undo();
        due("there is room again", 0, read(x, "limit 6"));
    }

    private static void theTapeThatStays() {
        says(3, "FULL (THE TAPE stays)");
        LastPenny x = new LastPenny();
        for (int i = 0; i < 4; i++) {
            read(x, "limit 1");
        }
        x.image();
        feedAll(x, "limit 2");
        x.table();
        feedAll(x, "limit 3");
        due("a sixth", FULL, x.table());
        due("once more", FULL, x.table());
        due("THE TAPE stays", 7, x.count(3));
        due("the fifth holds", 2, x.told(1));
    }

    private static void dayBad() {
        says(4, "DAY becomes n (0 .. 9): what it was. BAD.");
        LastPenny x = new LastPenny();
        due("0", 0, x.day(0));
        due("9", 0, x.day(9));
        for (int n : outside(0, 9)) {
            due("day " + n, BAD, x.day(n));
            due("DAY stays", 9, x.told(0));
        }
        due("0", 9, x.day(0));
        for (int n = 1; n <= 9; n++) {
            due("day " + n, n - 1, x.day(n));
            due("DAY", n, x.told(0));
        }
    }

    private static void toldNone() {
        says(5, "What 0 DAY, 1 limit. NONE.");
        LastPenny x = new LastPenny();
        x.day(7);
        read(x, "limit 8");
        due("DAY", 7, x.told(0));
        due("limit", 8, x.told(1));
        for (int what : outside(0, 1)) {
            due("told " + what, NONE, x.told(what));
        }
    }

    private static void playerNone() {
        says(6, "NONE: kind; BAD: v, goal, purse; FULL.");
        for (int kind : outside(0, 6)) {
            LastPenny x = new LastPenny();
            due("kind " + kind, NONE, x.player(kind, 0, 12, 6));
            due("nobody", 0, x.count(0));
        }
    }

    private static void playerBad() {
        says(6, "NONE: kind; BAD: v, goal, purse; FULL.");
        LastPenny x = new LastPenny();
        for (int kind = 0; kind <= 6; kind++) {
            for (int v : outside(0, 9)) {
                due("v " + v, BAD, x.player(kind, v, 12, 6));
            }
            for (int goal : outside(2, 12)) {
                due("goal " + goal, BAD, x.player(kind, 0, goal, 1));
            }
            for (int purse : outside(0, 7)) {
                due("purse " + purse, BAD, x.player(kind, 0, 7, purse));
            }
        }
        due("purse of goal 0", BAD, x.player(0, 0, 0, 0));
        due("purse of goal -1", BAD, x.player(0, 0, -1, -1));
        due("nobody", 0, x.count(0));
        due("the first", 0, x.player(PENNY, 0, 2, 0));
        due("the second", 1, x.player(TOLD, 9, 12, 12));
    }

    private static void playerFull() {
        says(6, "NONE: kind; BAD: v, goal, purse; FULL.");
        LastPenny x = new LastPenny();
        x.image();
        for (int i = 0; i < 4; i++) {
            due("player " + i, i, x.player(TOLD, i, 12, 6));
        }
        due("a fifth", FULL, x.player(PENNY, 0, 2, 1));
        due("players", 4, x.count(0));
        due("the fourth stays", TOLD, x.of(3, 0));
        x.undo();
        due("there is room again", 0, x.player(PENNY, 0, 2, 1));
    }

    private static void of0WhoIsOver() {
        says(7, "4 STAKE (0: it is OVER), 5 ODDS of that (0: it is OVER)");
        for (int kind = 0; kind <= 6; kind++) {
            for (int goal = 2; goal <= 12; goal++) {
                LastPenny x = with("lean 4 p<99", kind, 9, goal, 0);
                x.row(0, 0, 9);
                x.row(0, goal % 4, 9);
                due("STAKE at 0", 0, x.of(0, 4));
                due("ODDS at 0", 0, x.of(0, 5));
                x.purse(0, goal);
                due("STAKE at GOAL", 0, x.of(0, 4));
                due("ODDS at GOAL", 0, x.of(0, 5));
                x.purse(0, goal - 1);
                due("STAKE below GOAL", 1, x.of(0, 4));
                due("ODDS below GOAL", 9, x.of(0, 5));
            }
        }
        due("without a table", 0, with("", BOLD, 0, 12, 12).of(0, 5));
        due("without a table", 0, with("", BOLD, 0, 12, 0).of(0, 5));
    }

    private static void ofNone() {
        says(7, "Of a player what 0 KIND, 1 v, 2 GOAL, 3 PURSE");
        LastPenny x = with("", DRUNK, 8, 11, 5);
        int[] want = {DRUNK, 8, 11, 5, 3, 5};
        for (int what = 0; what <= 5; what++) {
            due("what " + what, want[what], x.of(0, what));
        }
        for (int what : outside(0, 5)) {
            due("what " + what, NONE, x.of(0, what));
        }
        for (int player : outside(0, 0)) {
            due("player " + player, NONE, x.of(player, 3));
        }
        x.purse(0, 0);
        due("what 6 of who is OVER", NONE, x.of(0, 6));
    }

    private static void purseBad() {
        says(8, "PURSE of a player becomes n (0 .. GOAL): what it was. NONE; BAD.");
        for (int goal = 2; goal <= 12; goal++) {
            LastPenny x = with("", PENNY, 0, goal, 1);
            due("GOAL", 1, x.purse(0, goal));
            due("0", goal, x.purse(0, 0));
            due("1", 0, x.purse(0, 1));
            for (int n : outside(0, goal)) {
                due("purse " + n, BAD, x.purse(0, n));
                due("PURSE stays", 1, x.of(0, 3));
            }
        }
    }

    private static void purseNone() {
        says(8, "PURSE of a player becomes n (0 .. GOAL): what it was. NONE; BAD.");
        LastPenny x = new LastPenny();
        due("nobody", NONE, x.purse(0, 0));
        x.player(PENNY, 0, 12, 6);
        x.player(PENNY, 0, 12, 7);
        for (int player : outside(0, 1)) {
            due("player " + player, NONE, x.purse(player, 1));
        }
        due("the second's", 7, x.purse(1, 12));
        due("the first's", 6, x.purse(0, 12));
    }

    private static void rowNone() {
        says(9, "NONE: player, k; BAD; STATE: another KIND.");
        LastPenny x = with("", TOLD, 0, 12, 6);
        for (int player : outside(0, 0)) {
            due("player " + player, NONE, x.row(player, 0, 1));
        }
        for (int k : outside(0, 3)) {
            due("k " + k, NONE, x.row(0, k, 1));
        }
        for (int k = 0; k < 4; k++) {
            due("row " + k + " stays", 0, x.row(0, k, 0));
        }
    }

    private static void rowBad() {
        says(9, "The k-th number (0 .. 3) of the ROW of a TOLD one becomes n (0 .. 9): what it was.");
        LastPenny x = with("", TOLD, 0, 12, 6);
        due("9", 0, x.row(0, 3, 9));
        for (int n : outside(0, 9)) {
            due("n " + n, BAD, x.row(0, 3, n));
        }
        due("0", 9, x.row(0, 3, 0));
        due("then", 0, x.row(0, 3, 5));
        due("then", 5, x.row(0, 3, 5));
        due("the others stay", 0, x.row(0, 2, 0));
    }

    private static void rowState() {
        says(9, "NONE: player, k; BAD; STATE: another KIND.");
        for (int kind = 0; kind <= 6; kind++) {
            for (int k = 0; k < 4; k++) {
                due("row of KIND " + kind, kind == TOLD ? 0 : STATE, with("", kind, 0, 12, 6).row(0, k, 3));
            }
        }
        LastPenny x = with("", SYSTEM, 4, 12, 5);
        due("SYSTEM", STATE, x.row(0, 1, 1));
        due("its STAKE stays", 5, x.of(0, 4));
    }

    private static void playNone() {
        says(10, "A THROW: PURSE then. NONE; STATE: it is OVER.");
        LastPenny x = with("", PENNY, 0, 12, 6);
        for (int player : outside(0, 0)) {
            due("player " + player, NONE, x.play(player, true));
            due("player " + player, NONE, x.play(player, false));
        }
        due("PURSE stays", 6, x.of(0, 3));
        due("won", 7, x.play(0, true));
        due("PURSE then", 7, x.of(0, 3));
        due("lost", 6, x.play(0, false));
    }

    private static void playState() {
        says(10, "A THROW: PURSE then. NONE; STATE: it is OVER.");
        for (int kind = 0; kind <= 6; kind++) {
            LastPenny x = with("", kind, 9, 12, 0);
            due("OVER at 0", STATE, x.play(0, true));
            due("OVER at 0", STATE, x.play(0, false));
            due("PURSE stays", 0, x.of(0, 3));
            x.purse(0, 12);
            due("OVER at GOAL", STATE, x.play(0, true));
            due("OVER at GOAL", STATE, x.play(0, false));
            due("PURSE stays", 12, x.of(0, 3));
            x.purse(0, 11);
            due("not OVER", 12, x.play(0, true));
            x.purse(0, 1);
            due("not OVER", 0, x.play(0, false));
        }
    }

    // ---- promises 11 to 20: chances

    private static void withinNo() {
        says(11, "WITHIN n: PURSE is q. NO: player, n, q (0 .. GOAL), part.");
        for (int goal = 2; goal <= 12; goal += 5) {
            LastPenny x = with("", PENNY, 0, goal, 1);
            for (int q = 0; q <= goal; q++) {
                due("q " + q, q == 1 ? 1 : 0, x.within(0, 0, q, 0));
            }
            for (int q : outside(0, goal)) {
                due("q " + q, NO, x.within(0, 1, q, 0));
            }
            for (int n : outside(0, 15)) {
                due("n " + n, NO, x.within(0, n, 1, 0));
            }
            for (int player : outside(0, 0)) {
                due("player " + player, NO, x.within(player, 1, 1, 0));
            }
            for (int part : outside(0, 1)) {
                due("part " + part, NO, x.within(0, 1, 1, part));
            }
        }
    }

    private static void lastsNo() {
        says(12, "LASTS. NO: player, n, part.");
        LastPenny x = with("", PENNY, 0, 12, 6);
        dueFraction("lasts 5", 5, 1, x.lasts(0, 5, 0), x.lasts(0, 5, 1));
        for (int n : outside(0, 15)) {
            due("n " + n, NO, x.lasts(0, n, 0));
        }
        for (int player : outside(0, 0)) {
            due("player " + player, NO, x.lasts(player, 1, 0));
        }
        for (int part : outside(0, 1)) {
            due("part " + part, NO, x.lasts(0, 1, part));
        }
    }

    private static void meanNo() {
        says(13, "MEAN. NO likewise.");
        LastPenny x = with("", PENNY, 0, 12, 6);
        due("15", 6, x.mean(0, 15, 0));
        for (int n : outside(0, 15)) {
            due("n " + n, NO, x.mean(0, n, 0));
        }
        for (int player : outside(0, 0)) {
            due("player " + player, NO, x.mean(player, 1, 0));
        }
        for (int part : outside(0, 1)) {
            due("part " + part, NO, x.mean(0, 1, part));
        }
    }

    private static void everNo() {
        says(14, "EVER. NO: player, part.");
        LastPenny x = with("", PENNY, 0, 12, 6);
        dueFraction("ever", 1, 2, x.ever(0, 0), x.ever(0, 1));
        for (int player : outside(0, 0)) {
            due("player " + player, NO, x.ever(player, 0));
        }
        for (int part : outside(0, 1)) {
            due("part " + part, NO, x.ever(0, part));
        }
    }

    private static void bestNone() {
        says(15, "BEST in n: its first stake. NONE; BAD: n.");
        LastPenny x = with("", PENNY, 0, 12, 6);
        due("best in 1", 6, x.best(0, 1));
        for (int player : outside(0, 0)) {
            due("player " + player, NONE, x.best(player, 1));
        }
        for (int n : outside(0, 15)) {
            due("n " + n, BAD, x.best(0, n));
        }
        x.purse(0, 0);
        due("n 16 of who is OVER", BAD, x.best(0, 16));
    }

    private static void bestChanceNo() {
        says(16, "BEST in n: the chance. NO: player, n, part.");
        LastPenny x = with("", PENNY, 0, 12, 6);
        dueFraction("in 15", 1, 2, x.bestChance(0, 15, 0), x.bestChance(0, 15, 1));
        for (int n : outside(0, 15)) {
            due("n " + n, NO, x.bestChance(0, n, 0));
        }
        for (int player : outside(0, 0)) {
            due("player " + player, NO, x.bestChance(player, 1, 0));
        }
        for (int part : outside(0, 1)) {
            due("part " + part, NO, x.bestChance(0, 1, part));
        }
    }

    private static void losesNo() {
        says(17, "LOSES in n. NO likewise.");
        LastPenny x = with("", BOLD, 0, 12, 6);
        dueFraction("in 15", 0, 1, x.loses(0, 15, 0), x.loses(0, 15, 1));
        for (int n : outside(0, 15)) {
            due("n " + n, NO, x.loses(0, n, 0));
        }
        for (int player : outside(0, 0)) {
            due("player " + player, NO, x.loses(player, 1, 0));
        }
        for (int part : outside(0, 1)) {
            due("part " + part, NO, x.loses(0, 1, part));
        }
    }

    private static void roomNone() {
        says(18, "ROOM in n. NONE; BAD: n.");
        LastPenny x = with("", BOLD, 0, 12, 6);
        due("in 15", 6, x.room(0, 15));
        for (int player : outside(0, 0)) {
            due("player " + player, NONE, x.room(player, 1));
        }
        for (int n : outside(0, 15)) {
            due("n " + n, BAD, x.room(0, n));
        }
    }

    private static void trioNo() {
        says(19, "TRIO (abc: 100 a, 10 b, c): that who (0, 1, 2) is out within n throws. NO: abc, n, who, part.");
        LastPenny x = new LastPenny();
        dueFraction("the first alone", 1, 3, x.trio(123, 1, 0, 0), x.trio(123, 1, 0, 1));
        dueFraction("the second alone", 1, 3, x.trio(213, 1, 1, 0), x.trio(213, 1, 1, 1));
        dueFraction("the third alone", 1, 3, x.trio(321, 1, 2, 0), x.trio(321, 1, 2, 1));
        due("not the second", 0, x.trio(123, 1, 1, 0));
        due("not the third", 0, x.trio(123, 1, 2, 0));
        for (int who : outside(0, 2)) {
            due("who " + who, NO, x.trio(111, 1, who, 0));
        }
        for (int n : outside(0, 8)) {
            due("n " + n, NO, x.trio(111, n, 0, 0));
        }
        for (int part : outside(0, 1)) {
            due("part " + part, NO, x.trio(111, 1, 0, part));
        }
        for (int abc : new int[] {110, 101, 11, 511, 151, 115, 0, 1111, -111, MIN, MAX}) {
            due("abc " + abc, NO, x.trio(abc, 1, 0, 0));
        }
    }

    private static void streakNo() {
        says(20, "STREAK. NO: o, r, n, part.");
        LastPenny x = new LastPenny();
        for (int o : outside(0, 10)) {
            due("o " + o, NO, x.streak(o, 1, 1, 0));
        }
        for (int r : outside(1, 6)) {
            due("r " + r, NO, x.streak(5, r, 1, 0));
        }
        for (int n : outside(0, 15)) {
            due("n " + n, NO, x.streak(5, 1, n, 0));
        }
        for (int part : outside(0, 1)) {
            due("part " + part, NO, x.streak(5, 1, 1, part));
        }
    }

    // ---- promises 21 to 24: throws told by hand

    private static void tossFull() {
        says(21, "A throw comes to THROWS: how many there are. FULL: 24.");
        LastPenny x = with("", PENNY, 0, 2, 1);
        for (int i = 1; i <= 24; i++) {
            due("toss " + i, i, x.toss(true));
        }
        due("a 25th, won", FULL, x.toss(true));
        due("a 25th, lost", FULL, x.toss(false));
        due("there are", 24, x.count(2));
        due("RUN", 24, x.seen(1));
        due("SEEMS", 10, x.seen(0));
    }

    private static void clearOfNone() {
        says(22, "THROWS are none: how many there were.");
        LastPenny x = with("", PENNY, 0, 12, 6);
        due("none", 0, x.clear());
        x.toss(true);
        due("one", 1, x.clear());
        due("none again", 0, x.clear());
        for (int i = 0; i < 24; i++) {
            x.toss(true);
        }
        due("24", 24, x.clear());
        due("none", 0, x.count(2));
        due("there is room again", 1, x.toss(false));
        due("none of the old ones is left", 5, x.by(0, 0));
        due("none of the old ones is left", 0, x.seen(0));
    }

    private static void byNone() {
        says(23, "Of a player by THROWS what 0 ENDS, 1 MADE, 2 TOP, 3 LOW, 4 BACK. NONE.");
        LastPenny x = with("", PENNY, 0, 12, 6);
        dueBy(x, "+--+-", 5, 5, 7, 5, 4);
        for (int what : outside(0, 4)) {
            due("what " + what, NONE, x.by(0, what));
        }
        for (int player : outside(0, 0)) {
            due("player " + player, NONE, x.by(player, 0));
        }
        due("PURSE stays", 6, x.of(0, 3));
        due("THROWS stay", 5, x.count(2));
    }

    private static void seenNone() {
        says(24, "What 0 SEEMS (-5), 1 RUN. NONE.");
        LastPenny x = new LastPenny();
        due("SEEMS", -5, x.seen(0));
        due("RUN", 0, x.seen(1));
        for (int what : outside(0, 1)) {
            due("seen " + what, NONE, x.seen(what));
        }
    }

    // ---- promises 25 to 30: acts, the image

    private static void actOfNobody() {
        says(25, "An ACT (0 stakes, 1 throws, 2 counts) of a player with x."
            + " 0, and no TRACE then: no such player, act.");
        LastPenny x = with("", BOLD, 3, 12, 6);
        dueAct(x, 0, 0, 5, 15);
        dueAct(x, 0, 1, 5, 12);
        dueAct(x, 0, 2, 5, 24);
        for (int player : outside(0, 0)) {
            x.act(0, 2, 5);
            dueAct(x, player, 0, 5, 0);
            dueTrace(x);
        }
        for (int act : outside(0, 2)) {
            x.act(0, 2, 5);
            dueAct(x, 0, act, 5, 0);
            dueTrace(x);
        }
        dueAct(x, 9, 9, 5, 0);
        dueTrace(x);
    }

    private static void actChangesTheTraceAlone() {
        says(25, "0, and no TRACE then: no such player, act.");
        dueUnchanged(x -> {
            x.act(9, 0, 7);
            x.act(0, 3, 7);
            x.act(1, 2, 7);
            x.act(0, 1, 7);
        });
    }

    private static void traceNone() {
        says(26, "THE TRACE's i-th body. NONE.");
        LastPenny x = with("", PENNY, 0, 12, 6);
        due("none yet", NONE, x.trace(0));
        x.act(0, 2, 1);
        dueTrace(x, 3, 2, 1);
        for (int i : outside(0, 2)) {
            due("trace " + i, NONE, x.trace(i));
        }
        due("trace 19", NONE, x.trace(19));
        due("trace 20", NONE, x.trace(20));
        due("trace 21", NONE, x.trace(21));
    }

    private static void asAnotherKind() {
        says(27, "A player taken for a KIND k (0 .. 6), or one under that: its v."
            + " NONE: player, k; -6: it is of another KIND.");
        String[] kindsAbove = {"0", "01", "02", "03", "014", "025", "036"};
        for (int kind = 0; kind <= 6; kind++) {
            for (int v = 0; v <= 9; v += 9) {
                LastPenny x = with("", kind, v, 12, 6);
                for (int k = 0; k <= 6; k++) {
                    due("KIND " + kind + " as " + k, kindsAbove[kind].indexOf('0' + k) >= 0 ? v : -6, x.as(0, k));
                }
            }
        }
    }

    private static void asNone() {
        says(27, "NONE: player, k; -6: it is of another KIND.");
        LastPenny x = with("", TOLD, 4, 12, 6);
        for (int player : outside(0, 0)) {
            due("player " + player, NONE, x.as(player, 0));
        }
        for (int k : outside(0, 6)) {
            due("k " + k, NONE, x.as(0, k));
        }
    }

    private static void imageOfHowMany() {
        says(28, "THE IMAGE is taken: how many PLAYERS there are.");
        LastPenny x = new LastPenny();
        due("nobody", 0, x.image());
        for (int i = 1; i <= 4; i++) {
            x.player(PENNY, 0, 2, 1);
            due("players", i, x.image());
        }
        due("once more", 4, x.image());
        dueUnchanged(y -> y.image());
    }

    private static void undoWithoutAnImage() {
        says(29, "All is as THE IMAGE: how many PLAYERS. STATE: there is none.");
        LastPenny x = with("", PENNY, 0, 12, 6);
        due("none", STATE, x.undo());
        x.purse(0, 5);
        due("none", STATE, x.undo());
        due("nothing is changed", 5, x.of(0, 3));
        due("image", 1, x.image());
        due("undo", 1, x.undo());
        due("undo again", 1, x.undo());
    }

    private static void undoToNobody() {
        says(29, "All is as THE IMAGE: how many PLAYERS. STATE: there is none.");
        LastPenny x = new LastPenny();
        x.image();
        x.player(TOLD, 5, 12, 6);
        x.row(0, 2, 7);
        read(x, "limit 3");
        x.toss(true);
        x.feed('l');
        x.day(3);
        due("undo", 0, x.undo());
        for (int what = 0; what <= 3; what++) {
            due("count " + what, 0, x.count(what));
        }
        due("DAY", 0, x.told(0));
        due("limit", 99, x.told(1));
        due("nobody", NONE, x.of(0, 0));
        due("a new player", 0, x.player(TOLD, 1, 9, 3));
        due("its ROW is 0 at first", 0, x.row(0, 2, 0));
        due("its v", 1, x.of(0, 1));
        due("its GOAL", 9, x.of(0, 2));
        due("its PURSE", 3, x.of(0, 3));
        due("undo", 0, x.undo());
    }

    private static void countNone() {
        says(30, "0 PLAYERS, 1 TABLES, 2 THROWS, 3 signs of THE TAPE, 4 bodies that ran in the latest act(). NONE.");
        LastPenny x = busy();
        int[] want = {3, 1, 3, 4, 3};
        for (int what = 0; what <= 4; what++) {
            due("count " + what, want[what], x.count(what));
        }
        for (int what : outside(0, 4)) {
            due("count " + what, NONE, x.count(what));
        }
        LastPenny y = full();
        int[] most = {4, 5, 24, 100, 0};
        for (int what = 0; what <= 4; what++) {
            due("count " + what + " at most", most[what], y.count(what));
        }
    }
}
