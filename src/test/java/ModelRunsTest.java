import java.math.BigInteger;
import java.util.ArrayList;
import java.util.HashMap;
import java.util.List;
import java.util.Map;
import java.util.TreeMap;

/** Long runs of calls, the same each time, against a model that follows the document by other ways than the class. */
public final class ModelRunsTest {
    private static final int NONE = -1, BAD = -2, STATE = -3, FULL = -4;
    private static final long NO = Long.MIN_VALUE;
    private static final int RUNS = 900, CALLS = 512, TEXTS = 4000;
    private static int checked = 0;
    private static int wrong = 0;
    private static long seed = 20261118;

    private static int any(int bound) {
        seed = seed * 6364136223846793005L + 1442695040888963407L;
        return (int) ((seed >>> 33) % bound);
    }

    /** Mostly within from .. to, now and then beside it or far from it. */
    private static int around(int from, int to) {
        int[] far = {from - 1, to + 1, Integer.MIN_VALUE, Integer.MAX_VALUE, -1};
        return any(20) == 0 ? far[any(far.length)] : from + any(to - from + 1);
    }

    public static void main(String[] args) {
        for (int run = 0; run < RUNS && wrong < 20; run++) {
            LastPenny x = new LastPenny();
            Model m = new Model();
            List<String> log = new ArrayList<>();
            while (log.size() < CALLS && wrong < 20) {
                if (any(12) == 0) {
                    feedText(x, m, log);
                } else {
                    call(x, m, log, any(30));
                }
            }
        }
        for (int i = 0; i < TEXTS && wrong < 20; i++) {
            readText(someTable());
        }
        System.out.println(checked + " answers checked, " + wrong + " not as due");
        if (wrong != 0) {
            System.exit(1);
        }
    }

    private static void due(List<String> log, String call, long got, long want) {
        log.add(call + " = " + want);
        checked++;
        if (got != want) {
            wrong++;
            System.out.println(call + " answered " + got + ", due is " + want + ", behind:");
            for (int i = Math.max(0, log.size() - 40); i < log.size(); i++) {
                System.out.println("    " + log.get(i));
            }
        }
    }

    /** A text on a new object; then, if it is a TABLE, every stake's odds by it. */
    private static void readText(String text) {
        LastPenny x = new LastPenny();
        Model m = new Model();
        List<String> log = new ArrayList<>();
        log.add(text);
        for (char sign : text.toCharArray()) {
            x.feed(sign);
            m.feed(sign);
        }
        due(log, "table", x.table(), m.table());
        for (int p = 0; p < 4; p++) {
            int kind = any(7);
            int v = any(10);
            int goal = 2 + any(11);
            x.player(kind, v, goal, 0);
            m.player(kind, v, goal, 0);
            for (int purse = 0; purse <= goal; purse++) {
                x.purse(p, purse);
                m.purse(p, purse);
                due(log, "stake of " + p + " at " + purse, x.of(p, 4), m.of(p, 4));
                due(log, "odds of " + p + " at " + purse, x.of(p, 5), m.of(p, 5));
            }
        }
    }

    private static void feedText(LastPenny x, Model m, List<String> log) {
        String text = someTable();
        for (char sign : text.toCharArray()) {
            due(log, "feed " + sign, x.feed(sign), m.feed(sign));
        }
        if (any(8) != 0) {
            due(log, "table", x.table(), m.table());
        }
    }

    // ---- texts

    private static String someNumber() {
        return String.valueOf(any(4) == 0 ? any(100) : any(13));
    }

    private static String someFactor(int open) {
        int form = any(open > 4 && any(30) != 0 ? 6 : 10);
        if (form < 6) {
            return "nkpgsd".charAt(any(6)) + "" + "<=>".charAt(any(3)) + someNumber();
        }
        return form < 8 ? "!" + someFactor(open + 1) : "(" + someEither(open + 1) + ")";
    }

    private static String someEither(int open) {
        StringBuilder text = new StringBuilder(someFactor(open));
        while (any(5) < 2) {
            text.append("&|".charAt(any(2))).append(someFactor(open));
        }
        return text.toString();
    }

    private static String someClause() {
        switch (any(5)) {
            case 0: return "limit " + someNumber();
            case 1:
            case 2: return "lean " + someNumber() + " " + someEither(0);
            default: return "tilt " + someNumber() + " " + someEither(0);
        }
    }

    private static String someTable() {
        StringBuilder text = new StringBuilder(someClause());
        if (any(12) == 0) {
            for (int i = any(12); i > 0; i--) {
                text.append(";limit ").append(any(10));
            }
        }
        while (any(3) != 0 && text.length() < 70) {
            text.append(';').append(someClause());
        }
        text.setLength(Math.min(text.length(), any(6) == 0 ? 101 : 100));
        if (any(3) == 0) {
            spoil(text);
        }
        return text.toString();
    }

    private static void spoil(StringBuilder text) {
        String signs = "leantilmt nkpgsd<=>0123456789&|!();x";
        int at = any(text.length());
        char sign = signs.charAt(any(signs.length()));
        switch (any(4)) {
            case 0: text.setCharAt(at, sign); break;
            case 1: text.insert(at, sign); break;
            case 2: text.deleteCharAt(at); break;
            default: text.setLength(at);
        }
    }

    // ---- calls

    private static void call(LastPenny x, Model m, List<String> log, int which) {
        int p = any(3) == 0 ? around(0, 3) : Math.max(0, any(4) % Math.max(1, m.players.size()));
        int n = around(0, 15);
        int part = around(0, 1);
        if (which < 15) {
            callFirst(x, m, log, which, p, n, part);
        } else {
            callSecond(x, m, log, which, p, n, part);
        }
    }

    private static void callFirst(LastPenny x, Model m, List<String> log, int which, int p, int n, int part) {
        int a = around(0, 9);
        int b = around(2, 12);
        int c = around(0, 12);
        switch (which) {
            case 0: due(log, "feed " + a * 14, x.feed(a * 14), m.feed(a * 14)); break;
            case 1: due(log, "table", x.table(), m.table()); break;
            case 2: due(log, "day " + a, x.day(a), m.day(a)); break;
            case 3: int w = around(0, 1); due(log, "told " + w, x.told(w), m.told(w)); break;
            case 4:
            case 5:
                int kind = around(0, 6);
                due(log, "player " + kind + " " + a + " " + b + " " + c, x.player(kind, a, b, c), m.player(kind, a, b, c));
                break;
            case 6: int what = around(0, 5); due(log, "of " + p + " " + what, x.of(p, what), m.of(p, what)); break;
            case 7: due(log, "purse " + p + " " + c, x.purse(p, c), m.purse(p, c)); break;
            case 8: int k = around(0, 3); due(log, "row " + p + " " + k + " " + a, x.row(p, k, a), m.row(p, k, a)); break;
            case 9: boolean won = any(2) == 0; due(log, "play " + p + " " + won, x.play(p, won), m.play(p, won)); break;
            case 10:
                due(log, "within " + p + " " + n + " " + c + " " + part, x.within(p, n, c, part), m.within(p, n, c, part));
                break;
            case 11: due(log, "lasts " + p + " " + n + " " + part, x.lasts(p, n, part), m.lasts(p, n, part)); break;
            case 12: due(log, "mean " + p + " " + n + " " + part, x.mean(p, n, part), m.mean(p, n, part)); break;
            case 13: due(log, "ever " + p + " " + part, x.ever(p, part), m.ever(p, part)); break;
            default: due(log, "best " + p + " " + n, x.best(p, n), m.best(p, n));
        }
    }

    private static void callSecond(LastPenny x, Model m, List<String> log, int which, int p, int n, int part) {
        switch (which) {
            case 15:
                due(log, "bestChance " + p + " " + n + " " + part, x.bestChance(p, n, part), m.bestChance(p, n, part));
                break;
            case 16: due(log, "loses " + p + " " + n + " " + part, x.loses(p, n, part), m.loses(p, n, part)); break;
            case 17: due(log, "room " + p + " " + n, x.room(p, n), m.room(p, n)); break;
            case 18:
                int abc = around(1, 4) * 100 + around(1, 4) * 10 + around(1, 4);
                int n8 = around(0, 8);
                int who = around(0, 2);
                due(log, "trio " + abc + " " + n8 + " " + who + " " + part, x.trio(abc, n8, who, part),
                        m.trio(abc, n8, who, part));
                break;
            case 19:
                int o = around(0, 10);
                int r = around(1, 6);
                due(log, "streak " + o + " " + r + " " + n + " " + part, x.streak(o, r, n, part), m.streak(o, r, n, part));
                break;
            case 20:
            case 21: boolean won = any(2) == 0; due(log, "toss " + won, x.toss(won), m.toss(won)); break;
            case 22: if (any(6) == 0) due(log, "clear", x.clear(), m.clear()); break;
            case 23: int what = around(0, 4); due(log, "by " + p + " " + what, x.by(p, what), m.by(p, what)); break;
            case 24: int w = around(0, 1); due(log, "seen " + w, x.seen(w), m.seen(w)); break;
            case 25:
                int act = around(0, 2);
                int with = around(-9, 9) * (any(5) == 0 ? 199999999 : 1);
                due(log, "act " + p + " " + act + " " + with, x.act(p, act, with), m.act(p, act, with));
                break;
            case 26: int i = around(0, 7); due(log, "trace " + i, x.trace(i), m.trace(i)); break;
            case 27: int k = around(0, 6); due(log, "as " + p + " " + k, x.as(p, k), m.as(p, k)); break;
            case 28:
                if (any(2) == 0) due(log, "image", x.image(), m.image());
                else due(log, "undo", x.undo(), m.undo());
                break;
            default: int c = around(0, 4); due(log, "count " + c, x.count(c), m.count(c));
        }
    }

    /** A fraction in lowest terms. */
    private static final class Fraction implements Comparable<Fraction> {
        static final Fraction ZERO = new Fraction(BigInteger.ZERO, BigInteger.ONE);
        static final Fraction ONE = new Fraction(BigInteger.ONE, BigInteger.ONE);
        final BigInteger above;
        final BigInteger below;

        Fraction(BigInteger above, BigInteger below) {
            BigInteger shared = above.gcd(below);
            this.above = above.divide(shared);
            this.below = below.divide(shared);
        }

        static Fraction of(long above, long below) {
            return new Fraction(BigInteger.valueOf(above), BigInteger.valueOf(below));
        }

        Fraction plus(Fraction o) {
            return new Fraction(above.multiply(o.below).add(o.above.multiply(below)), below.multiply(o.below));
        }

        Fraction times(Fraction o) {
            return new Fraction(above.multiply(o.above), below.multiply(o.below));
        }

        Fraction minus(Fraction o) {
            return plus(o.times(of(-1, 1)));
        }

        Fraction by(Fraction o) {
            return times(new Fraction(o.below, o.above));
        }

        long part(int part) {
            return (part == 0 ? above : below).longValueExact();
        }

        @Override
        public int compareTo(Fraction o) {
            return above.multiply(o.below).compareTo(o.above.multiply(below));
        }
    }

    /** Texts of tables, taken apart by splitting, not by reading on. */
    private static final class Texts {
        private static final String NUMBER = "(0|[1-9][0-9]?)";
        private static final String[] ENDINGS = {"", "limit 1", "imit 1", "mit 1", "it 1", "t 1", " 1", "1", "ean 1 p=1",
            "an 1 p=1", "n 1 p=1", " 1 p=1", "1 p=1", " p=1", "p=1", "=1", "ilt 1 p=1", "lt 1 p=1", "t 1 p=1"};

        /** The parts between signs that stand outside of brackets; null: the brackets don't fit. */
        static List<String> split(String text, char sign) {
            List<String> parts = new ArrayList<>();
            int depth = 0;
            int from = 0;
            for (int i = 0; i < text.length(); i++) {
                char c = text.charAt(i);
                depth += c == '(' ? 1 : c == ')' ? -1 : 0;
                if (depth < 0) {
                    return null;
                }
                if (c == sign && depth == 0) {
                    parts.add(text.substring(from, i));
                    from = i + 1;
                }
            }
            parts.add(text.substring(from));
            return depth == 0 ? parts : null;
        }

        static boolean isEither(String text, int open) {
            List<String> ors = split(text, '|');
            if (ors == null) {
                return false;
            }
            for (String or : ors) {
                for (String f : split(or, '&')) {
                    if (!isFactor(f, open)) {
                        return false;
                    }
                }
            }
            return true;
        }

        static boolean isFactor(String f, int open) {
            if (f.startsWith("!")) {
                return open < 5 && isFactor(f.substring(1), open + 1);
            }
            if (f.startsWith("(") && f.endsWith(")")) {
                return open < 5 && isEither(f.substring(1, f.length() - 1), open + 1);
            }
            return f.matches("[nkpgsd][<=>]" + NUMBER);
        }

        static boolean isTable(String text) {
            String[] clauses = text.split(";", -1);
            if (clauses.length > 10) {
                return false;
            }
            for (String clause : clauses) {
                boolean limit = clause.matches("limit " + NUMBER);
                boolean leaning = clause.matches("(lean|tilt) " + NUMBER + " .*")
                        && isEither(clause.split(" ", 3)[2], 0);
                if (!limit && !leaning) {
                    return false;
                }
            }
            return true;
        }

        static boolean canGoOn(String start) {
            for (String ending : ENDINGS) {
                for (int brackets = 0; brackets <= 5; brackets++) {
                    if (isTable(start + ending + ")".repeat(brackets))) {
                        return true;
                    }
                }
            }
            return false;
        }

        static int fault(String text) {
            for (int i = 0; i < text.length(); i++) {
                if (!canGoOn(text.substring(0, i + 1))) {
                    return i;
                }
            }
            return text.length();
        }

        static boolean holds(String either, Map<Character, Integer> seen) {
            boolean any = false;
            for (String or : split(either, '|')) {
                boolean every = true;
                for (String f : split(or, '&')) {
                    every &= factorHolds(f, seen);
                }
                any |= every;
            }
            return any;
        }

        static boolean factorHolds(String f, Map<Character, Integer> seen) {
            if (f.startsWith("!")) {
                return !factorHolds(f.substring(1), seen);
            }
            if (f.startsWith("(")) {
                return holds(f.substring(1, f.length() - 1), seen);
            }
            int compared = Integer.compare(seen.get(f.charAt(0)), Integer.parseInt(f.substring(2)));
            return compared == "<=>".indexOf(f.charAt(1)) - 1;
        }
    }

    private static final class Model {
        private static final int[] ABOVE = {-1, 0, 0, 0, 1, 2, 3};
        /** By KIND and act the number of the body, 0: none. */
        private static final int[][] BODIES = {{1, 2, 3}, {11, 0, 0}, {0, 21, 0}, {0, 0, 31}, {0, 0, 41}, {51, 0, 0},
            {0, 61, 0}};
        private String tape = "";
        private List<String> tables = new ArrayList<>();
        /** KIND, v, GOAL, PURSE, ROW. */
        private List<int[]> players = new ArrayList<>();
        private String tosses = "";
        private int day = 0;
        private final List<Integer> trace = new ArrayList<>();
        private Model image = null;

        private void copy(Model o) {
            tape = o.tape;
            tables = new ArrayList<>(o.tables);
            players = new ArrayList<>();
            for (int[] p : o.players) {
                players.add(p.clone());
            }
            tosses = o.tosses;
            day = o.day;
        }

        private boolean isPlayer(int p) {
            return p >= 0 && p < players.size();
        }

        private static boolean isIn(int n, int from, int to) {
            return n >= from && n <= to;
        }

        int feed(int sign) {
            if (!isIn(sign, 0, 127)) return BAD;
            if (tape.length() == 100) return FULL;
            tape += (char) sign;
            return tape.length();
        }

        int table() {
            if (tables.size() == 5) return FULL;
            String text = tape;
            tape = "";
            if (!Texts.isTable(text)) return -10 - Texts.fault(text);
            tables.add(text);
            return tables.size() - 1;
        }

        int day(int n) {
            if (!isIn(n, 0, 9)) return BAD;
            int was = day;
            day = n;
            return was;
        }

        private String[] clauses() {
            return tables.isEmpty() ? new String[0] : tables.get(tables.size() - 1).split(";");
        }

        private int limit() {
            int limit = 99;
            for (String clause : clauses()) {
                if (clause.startsWith("limit")) limit = Integer.parseInt(clause.substring(6));
            }
            return Math.max(1, limit);
        }

        int told(int what) {
            return what == 0 ? day : what == 1 ? limit() : NONE;
        }

        int player(int kind, int v, int goal, int purse) {
            if (!isIn(kind, 0, 6)) return NONE;
            if (!isIn(v, 0, 9) || !isIn(goal, 2, 12) || !isIn(purse, 0, goal)) return BAD;
            if (players.size() == 4) return FULL;
            players.add(new int[] {kind, v, goal, purse, 0, 0, 0, 0});
            return players.size() - 1;
        }

        private boolean isOver(int p, int purse) {
            return purse == 0 || purse == players.get(p)[2];
        }

        private int wish(int kind, int v, int goal, int purse, int told) {
            switch (kind) {
                case 0: return 1;
                case 1: return purse < goal - purse ? purse : goal - purse;
                case 2: return 1 + v % 3;
                case 3: return 1 + purse % (v + 2);
                case 4: return (int) Math.ceil(wish(1, v, goal, purse, told) / 2.0);
                case 5:
                    int careful = wish(2, v, goal, purse, told);
                    careful = careful > purse / 4 ? purse / 4 : careful;
                    return careful < 1 ? 1 : careful;
                default: return told > 0 ? told : wish(3, v, goal, purse, told);
            }
        }

        private int stake(int p, int purse) {
            int[] a = players.get(p);
            int stake = wish(a[0], a[1], a[2], purse, a[4 + purse % 4]);
            while (stake > purse || stake > a[2] - purse || stake > limit()) {
                stake--;
            }
            return stake;
        }

        private int odds(int p, int purse, int stake) {
            int[] a = players.get(p);
            Map<Character, Integer> seen = new HashMap<>();
            int[] values = {p, a[0], purse, a[2] - purse, stake, day};
            for (int i = 0; i < 6; i++) {
                seen.put("nkpgsd".charAt(i), values[i]);
            }
            int odds = 5;
            for (String clause : clauses()) {
                String[] parts = clause.split(" ");
                if (parts.length == 3 && Texts.holds(parts[2], seen)) {
                    odds += (parts[0].equals("lean") ? 1 : -1) * Integer.parseInt(parts[1]);
                }
            }
            return odds < 1 ? 1 : odds > 9 ? 9 : odds;
        }

        int of(int p, int what) {
            if (!isPlayer(p) || !isIn(what, 0, 5)) return NONE;
            int[] a = players.get(p);
            if (what < 4) return a[what];
            if (isOver(p, a[3])) return 0;
            return what == 4 ? stake(p, a[3]) : odds(p, a[3], stake(p, a[3]));
        }

        int purse(int p, int n) {
            if (!isPlayer(p)) return NONE;
            if (!isIn(n, 0, players.get(p)[2])) return BAD;
            int was = players.get(p)[3];
            players.get(p)[3] = n;
            return was;
        }

        int row(int p, int k, int n) {
            if (!isPlayer(p) || !isIn(k, 0, 3)) return NONE;
            if (!isIn(n, 0, 9)) return BAD;
            if (players.get(p)[0] != 6) return STATE;
            int was = players.get(p)[4 + k];
            players.get(p)[4 + k] = n;
            return was;
        }

        int play(int p, boolean won) {
            if (!isPlayer(p)) return NONE;
            int[] a = players.get(p);
            if (isOver(p, a[3])) return STATE;
            a[3] += (won ? 1 : -1) * stake(p, a[3]);
            return a[3];
        }

        private TreeMap<Integer, Fraction> spread(int p, int n) {
            TreeMap<Integer, Fraction> now = new TreeMap<>();
            now.put(players.get(p)[3], Fraction.ONE);
            for (int i = 0; i < n; i++) {
                TreeMap<Integer, Fraction> next = new TreeMap<>();
                for (int q : now.keySet()) {
                    Fraction w = now.get(q);
                    if (isOver(p, q)) {
                        next.merge(q, w, Fraction::plus);
                    } else {
                        int s = stake(p, q);
                        Fraction o = Fraction.of(odds(p, q, s), 10);
                        next.merge(q + s, w.times(o), Fraction::plus);
                        next.merge(q - s, w.minus(w.times(o)), Fraction::plus);
                    }
                }
                now = next;
            }
            return now;
        }

        private boolean isRefused(int p, int n, int part) {
            return !isPlayer(p) || !isIn(n, 0, 15) || !isIn(part, 0, 1);
        }

        private Fraction chanceOf(int p, int n, int q) {
            return spread(p, n).getOrDefault(q, Fraction.ZERO);
        }

        long within(int p, int n, int q, int part) {
            if (isRefused(p, n, part) || !isIn(q, 0, players.get(p)[2])) return NO;
            return chanceOf(p, n, q).part(part);
        }

        private Fraction lasting(int p, int purse, int n, Map<Integer, Fraction> known) {
            if (n == 0 || isOver(p, purse)) return Fraction.ZERO;
            int key = purse * 16 + n;
            if (!known.containsKey(key)) {
                int s = stake(p, purse);
                Fraction o = Fraction.of(odds(p, purse, s), 10);
                Fraction won = lasting(p, purse + s, n - 1, known).times(o);
                Fraction lost = lasting(p, purse - s, n - 1, known).times(Fraction.ONE.minus(o));
                known.put(key, Fraction.ONE.plus(won).plus(lost));
            }
            return known.get(key);
        }

        long lasts(int p, int n, int part) {
            if (isRefused(p, n, part)) return NO;
            return lasting(p, players.get(p)[3], n, new HashMap<>()).part(part);
        }

        long mean(int p, int n, int part) {
            if (isRefused(p, n, part)) return NO;
            Fraction mean = Fraction.ZERO;
            TreeMap<Integer, Fraction> spread = spread(p, n);
            for (int q : spread.keySet()) {
                mean = mean.plus(spread.get(q).times(Fraction.of(q, 1)));
            }
            return mean.part(part);
        }

        /** The chance at k is c times that at k + 1: c from that of k - 1. */
        long ever(int p, int part) {
            if (!isPlayer(p) || !isIn(part, 0, 1)) return NO;
            int[] a = players.get(p);
            if (a[3] == 0) return Fraction.ZERO.part(part);
            Fraction c = Fraction.ZERO;
            Fraction chance = Fraction.ONE;
            for (int k = 1; k < a[2]; k++) {
                Fraction o = Fraction.of(odds(p, k, 1), 10);
                c = o.by(Fraction.ONE.minus(Fraction.ONE.minus(o).times(c)));
                if (k >= a[3]) chance = chance.times(c);
            }
            return chance.part(part);
        }

        private Fraction greatest(int p, int purse, int n, int limit, Map<Integer, Fraction> known) {
            if (isOver(p, purse)) return purse == 0 ? Fraction.ZERO : Fraction.ONE;
            if (n == 0) return Fraction.ZERO;
            int key = purse * 16 + n;
            if (!known.containsKey(key)) {
                Fraction most = Fraction.ZERO;
                for (int s = 1; s <= limit && s <= purse && s <= players.get(p)[2] - purse; s++) {
                    Fraction chance = staked(p, purse, s, n, limit, known);
                    if (chance.compareTo(most) > 0) most = chance;
                }
                known.put(key, most);
            }
            return known.get(key);
        }

        private Fraction staked(int p, int purse, int s, int n, int limit, Map<Integer, Fraction> known) {
            Fraction o = Fraction.of(odds(p, purse, s), 10);
            return greatest(p, purse + s, n - 1, limit, known).times(o)
                    .plus(greatest(p, purse - s, n - 1, limit, known).times(Fraction.ONE.minus(o)));
        }

        int best(int p, int n) {
            if (!isPlayer(p)) return NONE;
            if (!isIn(n, 0, 15)) return BAD;
            int purse = players.get(p)[3];
            if (n == 0 || isOver(p, purse)) return 0;
            Map<Integer, Fraction> known = new HashMap<>();
            Fraction most = greatest(p, purse, n, limit(), known);
            int s = 1;
            while (staked(p, purse, s, n, limit(), known).compareTo(most) != 0) {
                s++;
            }
            return s;
        }

        private Fraction greatest(int p, int n, int limit) {
            return greatest(p, players.get(p)[3], n, limit, new HashMap<>());
        }

        long bestChance(int p, int n, int part) {
            if (isRefused(p, n, part)) return NO;
            return greatest(p, n, limit()).part(part);
        }

        long loses(int p, int n, int part) {
            if (isRefused(p, n, part)) return NO;
            return greatest(p, n, limit()).minus(chanceOf(p, n, players.get(p)[2])).part(part);
        }

        int room(int p, int n) {
            if (!isPlayer(p)) return NONE;
            if (!isIn(n, 0, 15)) return BAD;
            Fraction most = greatest(p, n, 99);
            int limit = 1;
            while (greatest(p, n, limit).compareTo(most) != 0) {
                limit++;
            }
            return limit;
        }

        private static Fraction out(int[] has, int n, int who, Map<String, Fraction> known) {
            for (int i = 0; i < 3; i++) {
                if (has[i] == 0) return i == who ? Fraction.ONE : Fraction.ZERO;
            }
            if (n == 0) return Fraction.ZERO;
            String key = has[0] + " " + has[1] + " " + has[2] + " " + n;
            if (!known.containsKey(key)) {
                Fraction sum = Fraction.ZERO;
                for (int giver = 0; giver < 3; giver++) {
                    for (int taker = 0; taker < 3; taker++) {
                        if (giver != taker) {
                            int[] then = has.clone();
                            then[giver]--;
                            then[taker]++;
                            sum = sum.plus(out(then, n - 1, who, known));
                        }
                    }
                }
                known.put(key, sum.times(Fraction.of(1, 6)));
            }
            return known.get(key);
        }

        long trio(int abc, int n, int who, int part) {
            if (!String.valueOf(abc).matches("[1-4]{3}") || !isIn(n, 0, 8) || !isIn(who, 0, 2) || !isIn(part, 0, 1)) {
                return NO;
            }
            return out(new int[] {abc / 100, abc / 10 % 10, abc % 10}, n, who, new HashMap<>()).part(part);
        }

        /** Every one of the 2^n rows of throws, by how many of its throws are lost. */
        long streak(int o, int r, int n, int part) {
            if (!isIn(o, 0, 10) || !isIn(r, 1, 6) || !isIn(n, 0, 15) || !isIn(part, 0, 1)) return NO;
            long[] rows = new long[16];
            for (int lost = 0; lost < 1 << n; lost++) {
                int run = lost;
                for (int i = 1; i < r; i++) {
                    run &= run << 1;
                }
                if (run != 0) rows[Integer.bitCount(lost)]++;
            }
            BigInteger above = BigInteger.ZERO;
            for (int k = 0; k <= n; k++) {
                above = above.add(BigInteger.valueOf(rows[k]).multiply(BigInteger.valueOf(10 - o).pow(k))
                        .multiply(BigInteger.valueOf(o).pow(n - k)));
            }
            return new Fraction(above, BigInteger.TEN.pow(n)).part(part);
        }

        int toss(boolean won) {
            if (tosses.length() == 24) return FULL;
            tosses += won ? "+" : "-";
            return tosses.length();
        }

        int clear() {
            int were = tosses.length();
            tosses = "";
            return were;
        }

        int by(int p, int what) {
            if (!isPlayer(p) || !isIn(what, 0, 4)) return NONE;
            List<Integer> purses = new ArrayList<>();
            int purse = players.get(p)[3];
            purses.add(purse);
            for (char t : tosses.toCharArray()) {
                if (isOver(p, purse)) break;
                purse += (t == '+' ? 1 : -1) * stake(p, purse);
                purses.add(purse);
            }
            switch (what) {
                case 0: return purse;
                case 1: return purses.size() - 1;
                case 2: return purses.stream().max(Integer::compare).get();
                case 3: return purses.stream().min(Integer::compare).get();
                default: return purses.lastIndexOf(purses.get(0));
            }
        }

        int seen(int what) {
            if (!isIn(what, 0, 1)) return NONE;
            if (what == 1) {
                int run = 0;
                while (tosses.contains("+".repeat(run + 1)) || tosses.contains("-".repeat(run + 1))) {
                    run++;
                }
                return run;
            }
            if (tosses.isEmpty()) return -5;
            int won = tosses.replace("-", "").length();
            TreeMap<Integer, Integer> nearest = new TreeMap<>();
            for (int o = 0; o <= 10; o++) {
                nearest.putIfAbsent(Math.abs(10 * won - o * tosses.length()), o);
            }
            return nearest.firstEntry().getValue();
        }

        /** The act of a player by the body of a KIND or of the next one above that has one. */
        private int run(int p, int from, int act, int x) {
            int kind = from;
            while (BODIES[kind][act] == 0) {
                kind = ABOVE[kind];
            }
            int[] a = players.get(p);
            int above = ABOVE[kind];
            trace.add(BODIES[kind][act]);
            switch (BODIES[kind][act]) {
                case 1: return x + p;
                case 2: return run(p, a[0], 0, x) - a[1];
                case 3: return run(p, a[0], 1, x) * 2;
                case 11: return run(p, above, 0, x * 3);
                case 21: return -run(p, above, 1, x);
                case 31: return run(p, above, 2, x) ^ 7;
                case 41: return run(p, above, 2, x - 1) + run(p, a[0], 0, 2);
                case 51: return run(p, above, 0, x) ^ p;
                default: return run(p, above, 1, x) + a[1];
            }
        }

        int act(int p, int act, int x) {
            trace.clear();
            return isPlayer(p) && isIn(act, 0, 2) ? run(p, players.get(p)[0], act, x) : 0;
        }

        int trace(int i) {
            return i >= 0 && i < Math.min(20, trace.size()) ? trace.get(i) : NONE;
        }

        int as(int p, int k) {
            if (!isPlayer(p) || !isIn(k, 0, 6)) return NONE;
            for (int kind = players.get(p)[0]; kind >= 0; kind = ABOVE[kind]) {
                if (kind == k) return players.get(p)[1];
            }
            return -6;
        }

        int image() {
            image = new Model();
            image.copy(this);
            return players.size();
        }

        int undo() {
            if (image == null) return STATE;
            copy(image);
            return players.size();
        }

        int count(int what) {
            int[] counts = {players.size(), tables.size(), tosses.length(), tape.length(), trace.size()};
            return isIn(what, 0, 4) ? counts[what] : NONE;
        }
    }
}
