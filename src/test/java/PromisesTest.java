import java.util.function.IntSupplier;

/** Each promise of the document by answers worked out by hand: ordinary inputs, edges, wrong inputs. */
public final class PromisesTest {
    private static final int NONE = -1, BAD = -2, STATE = -3, FULL = -4;
    private static final long NO = Long.MIN_VALUE;
    private static final int PENNY = 0, BOLD = 1, TIMID = 2, SYSTEM = 3, DRUNK = 4, CAREFUL = 5, TOLD = 6;
    private static final int[] FAR = {Integer.MIN_VALUE, -1000, -1, 1000, Integer.MAX_VALUE};
    private static int checked = 0;
    private static int wrong = 0;

    private static void due(String call, long want, long got) {
        checked++;
        if (got != want) {
            wrong++;
            System.out.println(call + " answered " + got + ", due is " + want);
        }
    }

    private static void dueFraction(String call, long above, long below, long gotAbove, long gotBelow) {
        due(call + " above", above, gotAbove);
        due(call + " below", below, gotBelow);
    }

    private static int read(LastPenny x, String text) {
        for (int i = 0; i < text.length(); i++) {
            x.feed(text.charAt(i));
        }
        return x.table();
    }

    /** The answer of table() to a text, on a new object. */
    private static int reading(String text) {
        return read(new LastPenny(), text);
    }

    private static LastPenny with(String text, int kind, int v, int goal, int purse) {
        LastPenny x = new LastPenny();
        if (!text.isEmpty()) {
            due("table " + text, 0, read(x, text));
        }
        due("player", 0, x.player(kind, v, goal, purse));
        return x;
    }

    public static void main(String[] args) {
        newObject();
        feeding();
        tablesThatAre();
        tablesWithFaults();
        tablesFull();
        days();
        limits();
        players();
        looksAtPlayers();
        stakes();
        odds();
        purses();
        rows();
        plays();
        withins();
        lastings();
        means();
        evers();
        bests();
        loss();
        rooms();
        trios();
        streaks();
        tosses();
        gonesThrough();
        seens();
        acts();
        kinds();
        images();
        counts();
        System.out.println(checked + " answers checked, " + wrong + " not as due");
        if (wrong != 0) {
            System.exit(1);
        }
    }

    // promise 1
    private static void newObject() {
        LastPenny x = new LastPenny();
        for (int what = 0; what <= 4; what++) {
            due("new count " + what, 0, x.count(what));
        }
        due("new DAY", 0, x.told(0));
        due("new limit", 99, x.told(1));
        due("new undo", STATE, x.undo());
        due("new trace", NONE, x.trace(0));
        due("new of", NONE, x.of(0, 0));
        due("new seen", -5, x.seen(0));
        due("NO", Long.MIN_VALUE, LastPenny.NO);
    }

    // promise 2
    private static void feeding() {
        LastPenny x = new LastPenny();
        due("feed 0", 1, x.feed(0));
        due("feed 127", 2, x.feed(127));
        due("feed 128", BAD, x.feed(128));
        for (int far : FAR) {
            due("feed " + far, BAD, x.feed(far));
        }
        due("BAD changes nothing", 2, x.count(3));
        for (int i = 3; i <= 100; i++) {
            due("feed the " + i + "th", i, x.feed('p'));
        }
        due("feed the 101st", FULL, x.feed('p'));
        due("BAD ahead of FULL", BAD, x.feed(128));
        due("FULL changes nothing", 100, x.count(3));
        due("the fault of a full tape", -10, x.table());
        due("feed behind", 1, x.feed('p'));
    }

    // promise 3
    private static void tablesThatAre() {
        String[] texts = {"lean 0 p=0", "tilt 99 n<99", "limit 0", "limit 99", "lean 1 p=1|k=2&g>3|s<4",
            "lean 1 !p=1", "lean 1 (p=1)", "lean 1 !!!!!d=9", "lean 1 (((((d=9)))))", "lean 1 !(!(!d=9))",
            "lean 1 !!!!!d=9&!!!!!d=9|(!(!(d=9)))", "lean 1 (p=1|p=2)&!(p=3&p=4)", "limit 1;limit 2;tilt 3 p=1"};
        for (String text : texts) {
            due("table " + text, 0, reading(text));
        }
        StringBuilder ten = new StringBuilder("limit 1");
        for (int i = 2; i <= 10; i++) {
            ten.append(";limit ").append(i);
        }
        due("ten clauses", 0, reading(ten.toString()));
        due("eleven clauses", -10 - ten.length(), reading(ten + ";limit 1"));
        due("ten clauses and ;", -10 - ten.length(), reading(ten + ";"));
        LastPenny x = new LastPenny();
        due("first table", 0, read(x, "limit 3"));
        due("the tape is empty", 0, x.count(3));
        due("second table", 1, read(x, "limit 4"));
        due("the newest holds", 4, x.told(1));
        due("a fault", -10, read(x, "x"));
        due("the one that held holds", 4, x.told(1));
        due("tables", 2, x.count(1));
        due("a table without limit", 2, read(x, "lean 1 p=1"));
        due("its limit", 99, x.told(1));
    }

    private static void tablesWithFaults() {
        fault(0, "");
        fault(0, "x");
        fault(0, " limit 1");
        fault(0, ";");
        fault(0, "LIMIT 1");
        fault(1, "l");
        fault(1, "lxmit");
        fault(2, "lelt 1");
        fault(2, "lixit 1");
        fault(1, "tean 1");
        fault(4, "tilt");
        fault(5, "tilt ");
        fault(5, "tilt  1");
        fault(6, "tilt 1");
        fault(6, "tilt 1;");
        fault(7, "tilt 1 ");
        fault(7, "tilt 1 ;");
        fault(7, "tilt 1  p=1");
        fault(7, "tilt 12p=1");
        fault(7, "tilt 123");
        fault(6, "tilt 00 p=1");
        fault(8, "tilt 1 p");
        fault(8, "tilt 1 p!1");
        fault(8, "tilt 1 p =1");
        fault(9, "tilt 1 p=");
        fault(9, "tilt 1 p=p");
        fault(9, "tilt 1 p<=1");
        fault(10, "tilt 1 p=01");
        fault(11, "tilt 1 p=123");
        fault(10, "tilt 1 p=1 ");
        fault(10, "tilt 1 p=1)");
        fault(11, "tilt 1 p=1&");
        fault(11, "tilt 1 p=1&&p=2");
        fault(11, "tilt 1 p=1&;");
        fault(11, "tilt 1 p=1|");
        fault(11, "tilt 1 p=1;");
        fault(8, "tilt 1 !");
        fault(8, "tilt 1 ()");
        fault(11, "tilt 1 (p=1");
        fault(11, "tilt 1 (p=1;");
        fault(12, "tilt 1 (p=1))");
        fault(12, "tilt 1 ((((((p=1");
        fault(12, "tilt 1 !(!(!!p=1");
        fault(18, "tilt 1 !!!!!p=1|!!!!!!p=1".substring(0, 18));
        fault(21, "tilt 1 !!!!!p=1|!!!!!!p=1");
        fault(19, "tilt 1 ((((p=1&(p=2!");
        fault(16, "tilt 1 !(((p=1&!!");
        fault(7, "limit 1 p=1");
        fault(7, "limit 0;".substring(0, 7) + "0");
        fault(7, "limit 01");
        fault(7, "limit 1x");
        fault(9, "limit 1;;limit 1".substring(0, 8) + "lx");
        fault(8, "limit 1; limit 1");
        fault(8, "limit 1;;");
    }

    private static void fault(int place, String text) {
        due("table '" + text + "'", -10 - place, reading(text));
    }

    private static void tablesFull() {
        LastPenny x = new LastPenny();
        for (int i = 0; i < 5; i++) {
            due("table " + i, i, read(x, "limit " + (i + 1)));
        }
        due("a sixth", FULL, read(x, "limit 9"));
        due("the tape stays", 7, x.count(3));
        due("the fifth holds", 5, x.told(1));
        due("tables", 5, x.count(1));
        due("the tape goes on", 8, x.feed('x'));
        due("FULL, with a fault too", FULL, x.table());
    }

    // promise 4
    private static void days() {
        LastPenny x = new LastPenny();
        due("day 9", 0, x.day(9));
        due("day 10", BAD, x.day(10));
        for (int far : FAR) {
            due("day " + far, BAD, x.day(far));
        }
        due("day 0", 9, x.day(0));
        due("told DAY", 0, x.told(0));
        x.day(4);
        due("told DAY", 4, x.told(0));
    }

    // promise 5
    private static void limits() {
        LastPenny x = new LastPenny();
        due("limit without", 99, x.told(1));
        due("told 2", NONE, x.told(2));
        for (int far : FAR) {
            due("told " + far, NONE, x.told(far));
        }
        read(x, "limit 0");
        due("limit is 1 at least", 1, x.told(1));
        read(x, "limit 7;lean 1 p=1;limit 5");
        due("the last limit", 5, x.told(1));
        read(x, "limit 3;limit 0");
        due("the last limit, 1 at least", 1, x.told(1));
    }

    // promise 6
    private static void players() {
        LastPenny x = new LastPenny();
        due("kind 7", NONE, x.player(7, 0, 2, 0));
        due("kind ahead of v", NONE, x.player(-1, -1, -1, -1));
        due("goal 1", BAD, x.player(0, 0, 1, 0));
        due("goal 13", BAD, x.player(0, 0, 13, 0));
        due("v 10", BAD, x.player(0, 10, 2, 0));
        due("v -1", BAD, x.player(0, -1, 2, 0));
        due("purse over goal", BAD, x.player(0, 0, 2, 3));
        due("purse -1", BAD, x.player(0, 0, 2, -1));
        for (int far : FAR) {
            due("kind " + far, NONE, x.player(far, 0, 2, 0));
            due("v " + far, BAD, x.player(0, far, 2, 0));
            due("goal " + far, BAD, x.player(0, 0, far, 0));
            due("purse " + far, BAD, x.player(0, 0, 2, far));
        }
        due("none yet", 0, x.count(0));
        due("player 0", 0, x.player(0, 0, 2, 0));
        due("player 1", 1, x.player(6, 9, 12, 12));
        due("player 2", 2, x.player(3, 4, 5, 2));
        due("player 3", 3, x.player(5, 1, 7, 7));
        due("a fifth", FULL, x.player(0, 0, 2, 0));
        due("NONE ahead of FULL", NONE, x.player(7, 0, 2, 0));
        due("BAD ahead of FULL", BAD, x.player(0, 0, 1, 0));
        due("players", 4, x.count(0));
    }

    // promise 7
    private static void looksAtPlayers() {
        LastPenny x = new LastPenny();
        x.player(DRUNK, 7, 11, 4);
        x.player(BOLD, 0, 5, 5);
        int[] want = {DRUNK, 7, 11, 4, 2, 5};
        for (int what = 0; what < want.length; what++) {
            due("of(0, " + what + ")", want[what], x.of(0, what));
        }
        due("over: stake", 0, x.of(1, 4));
        due("over: odds", 0, x.of(1, 5));
        x.purse(1, 0);
        due("over at 0: stake", 0, x.of(1, 4));
        due("over at 0: odds", 0, x.of(1, 5));
        due("of what 6", NONE, x.of(0, 6));
        due("of player 2", NONE, x.of(2, 0));
        for (int far : FAR) {
            due("of player " + far, NONE, x.of(far, 0));
            due("of what " + far, NONE, x.of(0, far));
        }
    }

    private static int stake(String table, int kind, int v, int goal, int purse) {
        return with(table, kind, v, goal, purse).of(0, 4);
    }

    private static void stakes() {
        due("PENNY", 1, stake("", PENNY, 9, 12, 6));
        due("BOLD, purse", 5, stake("", BOLD, 0, 12, 5));
        due("BOLD, rest", 4, stake("", BOLD, 0, 12, 8));
        due("BOLD, half", 6, stake("", BOLD, 0, 12, 6));
        due("BOLD, limit", 4, stake("limit 4", BOLD, 0, 12, 6));
        due("TIMID, 0", 1, stake("", TIMID, 0, 12, 6));
        due("TIMID, 8", 3, stake("", TIMID, 8, 12, 6));
        due("TIMID, 9", 1, stake("", TIMID, 9, 12, 6));
        due("TIMID, purse", 2, stake("", TIMID, 2, 12, 2));
        due("TIMID, rest", 1, stake("", TIMID, 2, 12, 11));
        due("SYSTEM, 0", 2, stake("", SYSTEM, 0, 12, 5));
        due("SYSTEM, 0", 1, stake("", SYSTEM, 0, 12, 6));
        due("SYSTEM, 4", 1, stake("", SYSTEM, 4, 12, 6));
        due("SYSTEM, 3", 3, stake("", SYSTEM, 3, 12, 7));
        due("SYSTEM, 9, purse", 5, stake("", SYSTEM, 9, 12, 5));
        due("SYSTEM, 9, rest", 5, stake("", SYSTEM, 9, 12, 7));
        due("SYSTEM, limit", 2, stake("limit 2", SYSTEM, 9, 12, 5));
        due("DRUNK, 5", 3, stake("", DRUNK, 0, 12, 5));
        due("DRUNK, 4", 2, stake("", DRUNK, 0, 12, 8));
        due("DRUNK, 1", 1, stake("", DRUNK, 0, 12, 1));
        due("DRUNK, limit behind the half", 3, stake("limit 3", DRUNK, 0, 12, 6));
        due("DRUNK, limit", 2, stake("limit 2", DRUNK, 0, 12, 6));
        due("CAREFUL, a fourth", 1, stake("", CAREFUL, 2, 12, 7));
        due("CAREFUL, a fourth", 2, stake("", CAREFUL, 2, 12, 8));
        due("CAREFUL, as TIMID", 1, stake("", CAREFUL, 3, 12, 8));
        due("CAREFUL, 1 at least", 1, stake("", CAREFUL, 2, 12, 3));
        due("TOLD, as SYSTEM", 3, stake("", TOLD, 1, 12, 5));
        LastPenny x = with("", TOLD, 1, 12, 5);
        x.row(0, 1, 4);
        due("TOLD, at 5", 4, x.of(0, 4));
        x.row(0, 1, 9);
        due("TOLD, purse", 5, x.of(0, 4));
        x.purse(0, 9);
        due("TOLD, rest", 3, x.of(0, 4));
        x.purse(0, 6);
        due("TOLD, at 6 as SYSTEM", 1, x.of(0, 4));
    }

    private static int oddsOf(String table, int kind, int v, int goal, int purse) {
        return with(table, kind, v, goal, purse).of(0, 5);
    }

    private static void odds() {
        due("without", 5, oddsOf("", BOLD, 0, 12, 5));
        due("lean", 7, oddsOf("lean 2 p=5", BOLD, 0, 12, 5));
        due("tilt", 3, oddsOf("tilt 2 p=5", BOLD, 0, 12, 5));
        due("9 at most", 9, oddsOf("lean 5 p=5", BOLD, 0, 12, 5));
        due("1 at least", 1, oddsOf("tilt 99 p=5", BOLD, 0, 12, 5));
        due("together first", 6, oddsOf("lean 90 p=5;tilt 99 p=5;lean 10 p=5", BOLD, 0, 12, 5));
        due("k", 7, oddsOf("lean 1 k=1;lean 1 k<2;lean 4 k>1", BOLD, 0, 12, 5));
        due("g", 7, oddsOf("lean 1 g=7;lean 1 g>6;lean 4 g<7", BOLD, 0, 12, 5));
        due("s", 7, oddsOf("lean 1 s=5;lean 1 s<6;lean 4 s>5", BOLD, 0, 12, 5));
        due("d", 6, oddsOf("lean 1 d=0;lean 4 d>0", BOLD, 0, 12, 5));
        due("two digits", 6, oddsOf("lean 1 g=11;lean 3 g=1", PENNY, 0, 12, 1));
        due("& ahead of |", 6, oddsOf("lean 1 p=5|p=5&p=4", BOLD, 0, 12, 5));
        due("& ahead of |", 6, oddsOf("lean 1 p=4&p=5|p=5", BOLD, 0, 12, 5));
        due("brackets", 5, oddsOf("lean 1 (p=5|p=5)&p=4", BOLD, 0, 12, 5));
        due("! of a TEST", 6, oddsOf("lean 1 !p=4|p=4", BOLD, 0, 12, 5));
        due("! of a TEST alone", 5, oddsOf("lean 1 !p=5&p=4", BOLD, 0, 12, 5));
        due("! of a TEST alone", 6, oddsOf("lean 1 !p=5|p=5", BOLD, 0, 12, 5));
        due("! of brackets", 5, oddsOf("lean 1 !(p=4|p=5)", BOLD, 0, 12, 5));
        due("!!", 6, oddsOf("lean 1 !!p=5", BOLD, 0, 12, 5));
        LastPenny x = with("lean 1 n=0;lean 3 n=1;tilt 2 d=3", PENNY, 0, 12, 5);
        x.player(PENNY, 0, 12, 5);
        due("n of player 0", 6, x.of(0, 5));
        due("n of player 1", 8, x.of(1, 5));
        x.day(3);
        due("d is 3", 4, x.of(0, 5));
        read(x, "limit 9");
        due("a newer TABLE", 5, x.of(0, 5));
        read(x, "lean 3 p=");
        read(x, "tilt 1 p=5&d=3;limit 4;lean 4 p=4");
        due("a TABLE behind a fault", 4, x.of(0, 5));
        x.purse(0, 4);
        due("another clause of it", 9, x.of(0, 5));
    }

    // promise 8
    private static void purses() {
        LastPenny x = with("", PENNY, 0, 7, 3);
        due("purse 7", 3, x.purse(0, 7));
        due("purse 8", BAD, x.purse(0, 8));
        due("purse 0", 7, x.purse(0, 0));
        due("purse of 1", NONE, x.purse(1, 0));
        due("NONE ahead of BAD", NONE, x.purse(1, -1));
        for (int far : FAR) {
            due("purse " + far, BAD, x.purse(0, far));
            due("purse of " + far, NONE, x.purse(far, 0));
        }
        due("purse now", 0, x.of(0, 3));
    }

    // promise 9
    private static void rows() {
        LastPenny x = with("", TOLD, 0, 12, 5);
        x.player(SYSTEM, 0, 12, 5);
        for (int k = 0; k < 4; k++) {
            due("row at first", 0, x.row(0, k, k + 6));
        }
        for (int k = 0; k < 4; k++) {
            due("row then", k + 6, x.row(0, k, 0));
        }
        due("k 4", NONE, x.row(0, 4, 0));
        due("n 10", BAD, x.row(0, 0, 10));
        due("another KIND", STATE, x.row(1, 0, 0));
        due("BAD ahead of STATE", BAD, x.row(1, 0, 10));
        due("NONE ahead of BAD", NONE, x.row(1, 4, 10));
        due("player 2", NONE, x.row(2, 0, 0));
        for (int far : FAR) {
            due("player " + far, NONE, x.row(far, 0, 0));
            due("k " + far, NONE, x.row(0, far, 0));
            due("n " + far, BAD, x.row(0, 0, far));
        }
        x.player(TOLD, 0, 12, 5);
        x.row(0, 3, 5);
        due("each has its own", 0, x.row(2, 3, 1));
        due("each has its own", 5, x.row(0, 3, 1));
    }

    // promise 10
    private static void plays() {
        LastPenny x = with("limit 2", BOLD, 0, 6, 3);
        due("won", 5, x.play(0, true));
        due("lost", 4, x.play(0, false));
        due("won", 6, x.play(0, true));
        due("over", STATE, x.play(0, false));
        due("stays", 6, x.of(0, 3));
        x.purse(0, 1);
        due("lost all", 0, x.play(0, false));
        due("over", STATE, x.play(0, true));
        due("player 1", NONE, x.play(1, true));
        for (int far : FAR) {
            due("player " + far, NONE, x.play(far, true));
        }
    }

    private static void dueWithin(LastPenny x, int n, int q, long above, long below) {
        dueFraction("within " + n + " of " + q, above, below, x.within(0, n, q, 0), x.within(0, n, q, 1));
    }

    // promise 11
    private static void withins() {
        LastPenny x = with("", PENNY, 0, 4, 2);
        dueWithin(x, 0, 2, 1, 1);
        dueWithin(x, 0, 0, 0, 1);
        dueWithin(x, 1, 1, 1, 2);
        dueWithin(x, 2, 4, 1, 4);
        dueWithin(x, 2, 2, 1, 2);
        dueWithin(x, 3, 2, 0, 1);
        dueWithin(x, 4, 4, 3, 8);
        dueWithin(x, 15, 0, 127, 256);
        due("nothing is changed", 2, x.of(0, 3));
        LastPenny y = with("lean 2 p=2;tilt 4 p=3", PENNY, 0, 4, 2);
        // 2 to 3 by 7 of 10, then to 4 by 1 of 10
        dueWithin(y, 2, 4, 7, 100);
        dueWithin(y, 2, 2, 39, 50);
        LastPenny z = with("lean 4 s=1", TOLD, 0, 8, 4);
        z.row(0, 0, 3);
        // 3 from 4; from 1 and 7 a penny, at odds of 9
        dueWithin(z, 2, 8, 9, 20);
        dueWithin(z, 2, 2, 9, 20);
        due("n 16", NO, x.within(0, 16, 0, 0));
        due("q 5", NO, x.within(0, 1, 5, 0));
        due("part 2", NO, x.within(0, 1, 0, 2));
        due("player 1", NO, x.within(1, 1, 0, 0));
        for (int far : FAR) {
            due("player " + far, NO, x.within(far, 1, 0, 0));
            due("n " + far, NO, x.within(0, far, 0, 0));
            due("q " + far, NO, x.within(0, 1, far, 0));
            due("part " + far, NO, x.within(0, 1, 0, far));
        }
        x.purse(0, 4);
        dueWithin(x, 9, 4, 1, 1);
        dueWithin(x, 9, 0, 0, 1);
    }

    // promise 12
    private static void lastings() {
        LastPenny x = with("", PENNY, 0, 4, 2);
        dueFraction("lasts 0", 0, 1, x.lasts(0, 0, 0), x.lasts(0, 0, 1));
        dueFraction("lasts 1", 1, 1, x.lasts(0, 1, 0), x.lasts(0, 1, 1));
        dueFraction("lasts 4", 3, 1, x.lasts(0, 4, 0), x.lasts(0, 4, 1));
        dueFraction("lasts 5", 13, 4, x.lasts(0, 5, 0), x.lasts(0, 5, 1));
        LastPenny y = with("lean 4 p=2", BOLD, 0, 5, 2);
        // 4 by 9 of 10, else over; from 4 to 5 or 3 by 5 of 10
        dueFraction("lasts 3", 1 * 20 + 18 + 9, 20, y.lasts(0, 3, 0), y.lasts(0, 3, 1));
        due("n 16", NO, x.lasts(0, 16, 0));
        due("part 2", NO, x.lasts(0, 1, 2));
        due("player 1", NO, x.lasts(1, 1, 0));
        for (int far : FAR) {
            due("player " + far, NO, x.lasts(far, 1, 0));
            due("n " + far, NO, x.lasts(0, far, 0));
            due("part " + far, NO, x.lasts(0, 1, far));
        }
        x.purse(0, 0);
        dueFraction("lasts, over", 0, 1, x.lasts(0, 15, 0), x.lasts(0, 15, 1));
    }

    // promise 13
    private static void means() {
        LastPenny x = with("", BOLD, 0, 12, 5);
        dueFraction("mean 15, fair", 5, 1, x.mean(0, 15, 0), x.mean(0, 15, 1));
        LastPenny y = with("lean 2 p=5", BOLD, 0, 12, 5);
        // 10 by 7 of 10, which is fair then
        dueFraction("mean 0", 5, 1, y.mean(0, 0, 0), y.mean(0, 0, 1));
        dueFraction("mean 1", 7, 1, y.mean(0, 1, 0), y.mean(0, 1, 1));
        LastPenny z = with("tilt 2 p>0", PENNY, 0, 12, 5);
        dueFraction("mean 2", 21, 5, z.mean(0, 2, 0), z.mean(0, 2, 1));
        LastPenny few = with("tilt 2 p=2", PENNY, 0, 4, 2);
        dueFraction("mean 1, of 1 and 3", 8, 5, few.mean(0, 1, 0), few.mean(0, 1, 1));
        due("n 16", NO, x.mean(0, 16, 0));
        due("part 2", NO, x.mean(0, 1, 2));
        due("player 1", NO, x.mean(1, 1, 0));
        for (int far : FAR) {
            due("player " + far, NO, x.mean(far, 1, 0));
            due("n " + far, NO, x.mean(0, far, 0));
            due("part " + far, NO, x.mean(0, 1, far));
        }
        x.purse(0, 12);
        dueFraction("mean, over", 12, 1, x.mean(0, 15, 0), x.mean(0, 15, 1));
        x.purse(0, 0);
        dueFraction("mean, over at 0", 0, 1, x.mean(0, 15, 0), x.mean(0, 15, 1));
    }

    // promise 14
    private static void evers() {
        LastPenny x = with("", BOLD, 0, 12, 8);
        dueFraction("ever, fair", 2, 3, x.ever(0, 0), x.ever(0, 1));
        LastPenny y = with("lean 1 s=1;tilt 4 s>1", BOLD, 0, 3, 1);
        // r = 2/3: 1 / (1 + 2/3 + 4/9) is 9/19
        dueFraction("ever, 6 of 10 for pennies", 9, 19, y.ever(0, 0), y.ever(0, 1));
        LastPenny z = with("lean 4 p=1;tilt 4 p=2", PENNY, 0, 3, 1);
        // r = 1/9, 9: 1 / (1 + 1/9 + 1)
        dueFraction("ever, by purse", 9, 19, z.ever(0, 0), z.ever(0, 1));
        LastPenny least = with("tilt 9 p<99", PENNY, 0, 12, 1);
        // r = 9: (9 - 1) / (9 to the 12th - 1)
        dueFraction("ever, least", 1, 35303692060L, least.ever(0, 0), least.ever(0, 1));
        due("part 2", NO, x.ever(0, 2));
        due("player 1", NO, x.ever(1, 0));
        for (int far : FAR) {
            due("player " + far, NO, x.ever(far, 0));
            due("part " + far, NO, x.ever(0, far));
        }
        x.purse(0, 12);
        dueFraction("ever, has all", 1, 1, x.ever(0, 0), x.ever(0, 1));
        x.purse(0, 0);
        dueFraction("ever, has nothing", 0, 1, x.ever(0, 0), x.ever(0, 1));
    }

    // promises 15 and 16
    private static void bests() {
        LastPenny x = with("", PENNY, 0, 8, 2);
        due("best in 1: none helps", 1, x.best(0, 1));
        dueFraction("chance in 1", 0, 1, x.bestChance(0, 1, 0), x.bestChance(0, 1, 1));
        due("best in 2", 2, x.best(0, 2));
        dueFraction("chance in 2", 1, 4, x.bestChance(0, 2, 0), x.bestChance(0, 2, 1));
        due("best in 0", 0, x.best(0, 0));
        dueFraction("chance in 0", 0, 1, x.bestChance(0, 0, 0), x.bestChance(0, 0, 1));
        LastPenny y = with("limit 1", PENNY, 0, 4, 2);
        due("best by limit 1", 1, y.best(0, 2));
        dueFraction("chance by limit 1", 1, 4, y.bestChance(0, 2, 0), y.bestChance(0, 2, 1));
        dueFraction("chance by limit 1 in 4", 3, 8, y.bestChance(0, 4, 0), y.bestChance(0, 4, 1));
        y.purse(0, 1);
        due("best from 1", 1, y.best(0, 3));
        dueFraction("chance from 1", 1, 8, y.bestChance(0, 3, 0), y.bestChance(0, 3, 1));
        LastPenny z = with("lean 4 s=2;tilt 3 s=3", BOLD, 0, 6, 3);
        // 3 at once wins by 2 of 10; 1 and then 2 as likely as 2 and then 1: the lesser
        due("best of several", 1, z.best(0, 2));
        dueFraction("chance by odds", 9, 20, z.bestChance(0, 2, 0), z.bestChance(0, 2, 1));
        due("best in 1", 3, z.best(0, 1));
        dueFraction("chance in 1", 1, 5, z.bestChance(0, 1, 0), z.bestChance(0, 1, 1));
        LastPenny only = with("lean 4 s=2&p=3;tilt 3 s=3", BOLD, 0, 6, 3);
        due("best by odds", 2, only.best(0, 2));
        dueFraction("chance by odds", 9, 20, only.bestChance(0, 2, 0), only.bestChance(0, 2, 1));
        due("n 16", BAD, x.best(0, 16));
        due("player 1", NONE, x.best(1, 0));
        due("NONE ahead of BAD", NONE, x.best(1, 16));
        due("n 16", NO, x.bestChance(0, 16, 0));
        due("part 2", NO, x.bestChance(0, 1, 2));
        due("player 1", NO, x.bestChance(1, 1, 0));
        for (int far : FAR) {
            due("player " + far, NONE, x.best(far, 1));
            due("n " + far, BAD, x.best(0, far));
            due("player " + far, NO, x.bestChance(far, 1, 0));
            due("n " + far, NO, x.bestChance(0, far, 0));
            due("part " + far, NO, x.bestChance(0, 1, far));
        }
        x.purse(0, 8);
        due("best, has all", 0, x.best(0, 5));
        dueFraction("chance, has all", 1, 1, x.bestChance(0, 5, 0), x.bestChance(0, 5, 1));
        dueFraction("chance in 0, has all", 1, 1, x.bestChance(0, 0, 0), x.bestChance(0, 0, 1));
        x.purse(0, 0);
        due("best, has nothing", 0, x.best(0, 5));
        dueFraction("chance, has nothing", 0, 1, x.bestChance(0, 5, 0), x.bestChance(0, 5, 1));
    }

    // promise 17
    private static void loss() {
        LastPenny x = with("", PENNY, 0, 8, 4);
        dueFraction("loses in 4", 7, 16, x.loses(0, 4, 0), x.loses(0, 4, 1));
        dueFraction("loses in 0", 0, 1, x.loses(0, 0, 0), x.loses(0, 0, 1));
        LastPenny y = with("lean 4 s=2;tilt 3 s=3", BOLD, 0, 6, 3);
        dueFraction("loses by 3 at once", 1, 4, y.loses(0, 2, 0), y.loses(0, 2, 1));
        due("n 16", NO, x.loses(0, 16, 0));
        due("part 2", NO, x.loses(0, 1, 2));
        due("player 1", NO, x.loses(1, 1, 0));
        for (int far : FAR) {
            due("player " + far, NO, x.loses(far, 1, 0));
            due("n " + far, NO, x.loses(0, far, 0));
            due("part " + far, NO, x.loses(0, 1, far));
        }
        x.purse(0, 8);
        dueFraction("loses, over", 0, 1, x.loses(0, 4, 0), x.loses(0, 4, 1));
    }

    // promise 18
    private static void rooms() {
        LastPenny x = with("limit 1", PENNY, 0, 12, 6);
        due("room in 1", 6, x.room(0, 1));
        due("room in 0", 1, x.room(0, 0));
        // any way of staking is fair, and in two throws 3 and 3 give a fourth only
        due("room in 2", 6, x.room(0, 2));
        LastPenny y = with("lean 4 s=1;tilt 4 s>1", PENNY, 0, 4, 2);
        due("room, pennies are best", 1, y.room(0, 2));
        due("room, for a last throw of 2", 2, y.room(0, 3));
        LastPenny z = with("", PENNY, 0, 8, 2);
        due("room, none helps", 1, z.room(0, 1));
        due("room in 2", 4, z.room(0, 2));
        due("n 16", BAD, x.room(0, 16));
        due("player 1", NONE, x.room(1, 16));
        for (int far : FAR) {
            due("player " + far, NONE, x.room(far, 1));
            due("n " + far, BAD, x.room(0, far));
        }
        x.purse(0, 12);
        due("room, over", 1, x.room(0, 9));
        x.purse(0, 0);
        due("room, over at 0", 1, x.room(0, 9));
    }

    private static void dueTrio(LastPenny x, int abc, int n, int who, long above, long below) {
        dueFraction("trio " + abc + " in " + n + " of " + who, above, below,
                x.trio(abc, n, who, 0), x.trio(abc, n, who, 1));
    }

    // promise 19
    private static void trios() {
        LastPenny x = new LastPenny();
        dueTrio(x, 111, 0, 0, 0, 1);
        for (int who = 0; who < 3; who++) {
            dueTrio(x, 111, 1, who, 1, 3);
            dueTrio(x, 111, 8, who, 1, 3);
            dueTrio(x, 444, 3, who, 0, 1);
            // the first loses four one behind the other, 2 of 6 each time
            dueTrio(x, 444, 4, who, 1, 81);
        }
        dueTrio(x, 122, 1, 0, 1, 3);
        dueTrio(x, 122, 1, 1, 0, 1);
        // the first gives; else: four ways, from 2 1 2 and 2 2 1 it can't, from 1 3 1 and 1 1 3 it gives by 2 of 6
        dueTrio(x, 122, 2, 0, 4, 9);
        dueTrio(x, 122, 2, 1, 1, 9);
        dueTrio(x, 123, 2, 0, 4, 9);
        dueTrio(x, 123, 2, 1, 1, 9);
        dueTrio(x, 123, 2, 2, 0, 1);
        dueTrio(x, 123, 3, 2, 1, 27);
        dueTrio(x, 312, 2, 1, 4, 9);
        dueTrio(x, 312, 3, 0, 1, 27);
        dueTrio(x, 231, 2, 2, 4, 9);
        dueTrio(x, 231, 3, 1, 1, 27);
        dueTrio(x, 212, 1, 1, 1, 3);
        dueTrio(x, 221, 1, 2, 1, 3);
        int[] bad = {0, 11, 101, 110, 115, 151, 511, 611, 1111, -111, 9999, 444444, 110 + 1000};
        for (int abc : bad) {
            due("abc " + abc, NO, x.trio(abc, 1, 0, 0));
        }
        due("n 9", NO, x.trio(111, 9, 0, 0));
        due("who 3", NO, x.trio(111, 1, 3, 0));
        due("part 2", NO, x.trio(111, 1, 0, 2));
        for (int far : FAR) {
            due("abc " + far, NO, x.trio(far, 1, 0, 0));
            due("n " + far, NO, x.trio(111, far, 0, 0));
            due("who " + far, NO, x.trio(111, 1, far, 0));
            due("part " + far, NO, x.trio(111, 1, 0, far));
        }
    }

    private static void dueStreak(LastPenny x, int o, int r, int n, long above, long below) {
        dueFraction("streak " + o + " " + r + " " + n, above, below, x.streak(o, r, n, 0), x.streak(o, r, n, 1));
    }

    // promise 20
    private static void streaks() {
        LastPenny x = new LastPenny();
        dueStreak(x, 5, 1, 0, 0, 1);
        dueStreak(x, 5, 1, 1, 1, 2);
        dueStreak(x, 5, 2, 1, 0, 1);
        dueStreak(x, 5, 2, 4, 1, 2);
        dueStreak(x, 5, 6, 6, 1, 64);
        dueStreak(x, 2, 2, 2, 16, 25);
        dueStreak(x, 9, 1, 15, 1000000000000000L - 205891132094649L, 1000000000000000L);
        dueStreak(x, 10, 1, 15, 0, 1);
        dueStreak(x, 0, 6, 15, 1, 1);
        dueStreak(x, 0, 6, 5, 0, 1);
        due("o 11", NO, x.streak(11, 1, 1, 0));
        due("r 0", NO, x.streak(5, 0, 1, 0));
        due("r 7", NO, x.streak(5, 7, 1, 0));
        due("n 16", NO, x.streak(5, 1, 16, 0));
        due("part 2", NO, x.streak(5, 1, 1, 2));
        for (int far : FAR) {
            due("o " + far, NO, x.streak(far, 1, 1, 0));
            due("r " + far, NO, x.streak(5, far, 1, 0));
            due("n " + far, NO, x.streak(5, 1, far, 0));
            due("part " + far, NO, x.streak(5, 1, 1, far));
        }
    }

    // promises 21 and 22
    private static void tosses() {
        LastPenny x = new LastPenny();
        due("clear of none", 0, x.clear());
        for (int i = 1; i <= 24; i++) {
            due("toss " + i, i, x.toss(i % 3 == 0));
        }
        due("a 25th", FULL, x.toss(true));
        due("there are", 24, x.count(2));
        due("clear", 24, x.clear());
        due("there are", 0, x.count(2));
        due("clear again", 0, x.clear());
        due("toss", 1, x.toss(false));
        due("nothing stays of the old ones", 0, x.seen(0));
        due("nothing stays of the old ones", 1, x.seen(1));
    }

    private static void dueBy(LastPenny x, String run, int... want) {
        for (int what = 0; what < want.length; what++) {
            due("by " + run + " " + what, want[what], x.by(0, what));
        }
    }

    private static void tossAll(LastPenny x, String run) {
        x.clear();
        for (int i = 0; i < run.length(); i++) {
            x.toss(run.charAt(i) == '+');
        }
    }

    // promise 23
    private static void gonesThrough() {
        LastPenny x = with("", PENNY, 0, 6, 3);
        dueBy(x, "of none", 3, 0, 3, 3, 0);
        tossAll(x, "+-+-");
        dueBy(x, "+-+-", 3, 4, 4, 3, 4);
        tossAll(x, "-+--++++");
        dueBy(x, "-+--++++", 5, 8, 5, 1, 6);
        tossAll(x, "+++---");
        dueBy(x, "+++---, over", 6, 3, 6, 3, 0);
        tossAll(x, "+----+++");
        dueBy(x, "+----+++, over", 0, 5, 4, 0, 2);
        due("nothing is changed", 3, x.of(0, 3));
        x.purse(0, 6);
        dueBy(x, "over at first", 6, 0, 6, 6, 0);
        x.purse(0, 0);
        dueBy(x, "over at first", 0, 0, 0, 0, 0);
        LastPenny y = with("limit 4", BOLD, 0, 12, 5);
        tossAll(y, "+-+");
        // 5, 9, 6, 10
        dueBy(y, "bold", 10, 3, 10, 5, 0);
        due("what 5", NONE, x.by(0, 5));
        due("player 1", NONE, x.by(1, 0));
        for (int far : FAR) {
            due("what " + far, NONE, x.by(0, far));
            due("player " + far, NONE, x.by(far, 0));
        }
    }

    // promise 24
    private static void seens() {
        LastPenny x = new LastPenny();
        due("seems, none", -5, x.seen(0));
        due("run, none", 0, x.seen(1));
        dueSeen(x, "+", 10, 1);
        dueSeen(x, "-", 0, 1);
        dueSeen(x, "+-", 5, 1);
        // 10 lies as far from 8 as from 12: the lesser
        dueSeen(x, "+---", 2, 3);
        dueSeen(x, "+++-", 7, 3);
        dueSeen(x, "++-", 7, 2);
        dueSeen(x, "---+------", 1, 6);
        dueSeen(x, "--+++-++", 6, 3);
        dueSeen(x, "++++++++++++++++++++++++", 10, 24);
        dueSeen(x, "-----------------------+", 0, 23);
        due("seen 2", NONE, x.seen(2));
        for (int far : FAR) {
            due("seen " + far, NONE, x.seen(far));
        }
    }

    private static void dueSeen(LastPenny x, String run, int seems, int longest) {
        tossAll(x, run);
        due("seems " + run, seems, x.seen(0));
        due("run " + run, longest, x.seen(1));
    }

    private static void dueAct(LastPenny x, int act, int with, int want, int... bodies) {
        due("act " + act, want, x.act(x.count(0) - 1, act, with));
        due("bodies", bodies.length, x.count(4));
        for (int i = 0; i < bodies.length; i++) {
            due("body " + i + " of act " + act, bodies[i], x.trace(i));
        }
        due("behind the last body", NONE, x.trace(bodies.length));
    }

    /** An object whose player 3 is of a KIND, with v. */
    private static LastPenny fourth(int kind, int v) {
        LastPenny x = new LastPenny();
        for (int i = 0; i < 3; i++) {
            x.player(PENNY, 0, 2, 1);
        }
        x.player(kind, v, 12, 6);
        return x;
    }

    // promises 25 and 26
    private static void acts() {
        LastPenny x = fourth(PENNY, 2);
        dueAct(x, 0, 5, 8, 1);
        dueAct(x, 1, 5, 6, 2, 1);
        dueAct(x, 2, 5, 12, 3, 2, 1);
        x = fourth(BOLD, 2);
        dueAct(x, 0, 5, 18, 11, 1);
        dueAct(x, 1, 5, 16, 2, 11, 1);
        dueAct(x, 2, 5, 32, 3, 2, 11, 1);
        x = fourth(TIMID, 2);
        dueAct(x, 0, 5, 8, 1);
        dueAct(x, 1, 5, -6, 21, 2, 1);
        dueAct(x, 2, 5, -12, 3, 21, 2, 1);
        x = fourth(SYSTEM, 2);
        dueAct(x, 1, 5, 6, 2, 1);
        dueAct(x, 2, 5, 12 ^ 7, 31, 3, 2, 1);
        x = fourth(DRUNK, 2);
        dueAct(x, 1, 5, 16, 2, 11, 1);
        // counts of 4: (12 + 3 - 2) * 2, and stakes of 2: 6 + 3
        dueAct(x, 2, 5, 35, 41, 3, 2, 11, 1, 11, 1);
        x = fourth(CAREFUL, 2);
        dueAct(x, 0, 5, 8 ^ 3, 51, 1);
        dueAct(x, 1, 5, -((8 ^ 3) - 2), 21, 2, 51, 1);
        dueAct(x, 2, 5, -2 * ((8 ^ 3) - 2), 3, 21, 2, 51, 1);
        x = fourth(TOLD, 2);
        dueAct(x, 0, 5, 8, 1);
        dueAct(x, 1, 5, 8, 61, 2, 1);
        dueAct(x, 2, 5, 16 ^ 7, 31, 3, 61, 2, 1);
        dueAct(x, 0, Integer.MAX_VALUE, Integer.MIN_VALUE + 2, 1);
        due("no such act", 0, x.act(3, 3, 5));
        due("no trace then", 0, x.count(4));
        due("no trace then", NONE, x.trace(0));
        dueAct(x, 0, 5, 8, 1);
        due("no such player", 0, x.act(4, 0, 5));
        due("no trace then", 0, x.count(4));
        for (int far : FAR) {
            x.act(3, 0, 5);
            due("player " + far, 0, x.act(far, 0, 5));
            due("no trace then", NONE, x.trace(0));
            x.act(3, 0, 5);
            due("act " + far, 0, x.act(3, far, 5));
            due("no trace then", NONE, x.trace(0));
            due("trace " + far, NONE, x.trace(far));
        }
        x = fourth(BOLD, 0);
        due("wrapping", 0x55555556 * 3 + 3, x.act(3, 0, 0x55555556));
    }

    // promise 27
    private static void kinds() {
        int[] above = {-1, PENNY, PENNY, PENNY, BOLD, TIMID, SYSTEM};
        for (int kind = 0; kind <= 6; kind++) {
            LastPenny x = with("", kind, 4, 12, 6);
            for (int k = 0; k <= 6; k++) {
                boolean is = k == PENNY || k == kind || k == above[kind];
                due("kind " + kind + " as " + k, is ? 4 : -6, x.as(0, k));
            }
            due("as 7", NONE, x.as(0, 7));
            due("player 1", NONE, x.as(1, 0));
            for (int far : FAR) {
                due("as " + far, NONE, x.as(0, far));
                due("player " + far, NONE, x.as(far, 0));
            }
        }
    }

    // promises 28 and 29
    private static void images() {
        LastPenny x = new LastPenny();
        due("undo without", STATE, x.undo());
        read(x, "limit 3");
        x.player(TOLD, 1, 12, 6);
        x.row(0, 2, 2);
        x.player(BOLD, 2, 10, 4);
        x.toss(true);
        x.toss(false);
        x.day(6);
        x.feed('l');
        x.feed('i');
        due("image", 2, x.image());
        changeAll(x);
        due("bodies ahead of undo", 2, x.count(4));
        due("undo", 2, x.undo());
        dueAsImaged(x);
        due("THE TRACE is none of it", 2, x.count(4));
        due("THE TRACE is none of it", 11, x.trace(0));
        changeAll(x);
        due("undo again", 2, x.undo());
        dueAsImaged(x);
        due("the next player", 2, x.player(TOLD, 0, 12, 6));
        due("its row is new", 0, x.row(2, 2, 0));
        due("a newer image", 3, x.image());
        x.player(PENNY, 0, 2, 1);
        due("undo", 3, x.undo());
        x.undo();
        for (char sign : "mit 8".toCharArray()) {
            x.feed(sign);
        }
        due("the tape of the image", 1, x.table());
        due("is read", 8, x.told(1));
        LastPenny y = new LastPenny();
        due("image of nobody", 0, y.image());
        y.player(PENNY, 0, 2, 1);
        due("undo to nobody", 0, y.undo());
        due("nobody", NONE, y.of(0, 0));
    }

    private static void changeAll(LastPenny x) {
        x.act(1, 0, 1);
        x.row(0, 2, 9);
        x.purse(0, 1);
        x.play(1, true);
        x.player(TOLD, 0, 9, 9);
        x.row(2, 2, 7);
        x.clear();
        x.toss(false);
        x.day(7);
        x.table();
        read(x, "limit 5;lean 2 p>0");
        x.feed('t');
    }

    private static void dueAsImaged(LastPenny x) {
        IntSupplier[] calls = {() -> x.count(0), () -> x.count(1), () -> x.count(2), () -> x.count(3),
            () -> x.told(0), () -> x.told(1), () -> x.of(0, 3), () -> x.of(0, 4), () -> x.of(0, 5), () -> x.of(1, 3),
            () -> x.of(2, 0), () -> x.seen(0), () -> x.row(0, 2, 2)};
        int[] want = {2, 1, 2, 2, 6, 3, 6, 2, 5, 4, NONE, 5, 2};
        for (int i = 0; i < calls.length; i++) {
            due("as imaged, look " + i, want[i], calls[i].getAsInt());
        }
    }

    // promise 30
    private static void counts() {
        LastPenny x = new LastPenny();
        x.player(PENNY, 0, 2, 1);
        x.player(PENNY, 0, 2, 1);
        read(x, "limit 1");
        x.toss(true);
        x.toss(true);
        x.toss(true);
        for (int i = 0; i < 4; i++) {
            x.feed('x');
        }
        x.act(1, 2, 0);
        int[] want = {2, 1, 3, 4, 3};
        for (int what = 0; what < want.length; what++) {
            due("count " + what, want[what], x.count(what));
        }
        due("count 5", NONE, x.count(5));
        for (int far : FAR) {
            due("count " + far, NONE, x.count(far));
        }
    }
}
