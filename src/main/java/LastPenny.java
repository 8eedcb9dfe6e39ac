import java.util.Arrays;

/** Till one has all: players, purses, a coin that leans, and the chances of it. */
public final class LastPenny {
    public static final int NONE = -1, BAD = -2, STATE = -3, FULL = -4;
    public static final long NO = Long.MIN_VALUE;

    private static final int NO_THROWS = -5, ANOTHER_KIND = -6, FAULT = -10;
    private static final int MOST_PLAYERS = 4, MOST_TABLES = 5, MOST_SIGNS = 100, MOST_TOSSES = 24;
    private static final int MOST_CLAUSES = 10, MOST_OPEN = 5, MOST_KEPT = 20;
    private static final int KINDS = 7, ROW = 4, LEAST_GOAL = 2, MOST_GOAL = 12;
    private static final int MOST_THROWS = 15, MOST_TRIO_THROWS = 8, MOST_TRIO_PENNIES = 4, MOST_STREAK = 6;
    private static final int NO_LIMIT = 99;
    /** Half of the greatest GOAL: no purse can stake more. */
    private static final int MOST_STAKE = 6;

    private final State all = new State();
    private final State kept = new State();
    private boolean hasImage;
    private final Chances chances = new Chances();
    private final Reader reader = new Reader();
    /** How many bodies ran stands first, the bodies behind it. */
    private final int[] ran = new int[1 + MOST_KEPT];

    public LastPenny() {
    }

    // ---- tables, players

    public int feed(int sign) {
        if (sign < 0 || sign > 127) {
            return BAD;
        }
        if (all.signs >= MOST_SIGNS) {
            return FULL;
        }
        all.tape[all.signs] = (byte) sign;
        all.signs++;
        return all.signs;
    }

    public int table() {
        if (all.tableCount >= MOST_TABLES) {
            return FULL;
        }
        boolean isTable = reader.read(all.tape, all.signs);
        all.signs = 0;
        if (!isTable) {
            return FAULT - reader.at;
        }
        all.tables[all.tableCount] = reader.made();
        all.tableCount++;
        return all.tableCount - 1;
    }

    public int day(int n) {
        if (!isDigit(n)) {
            return BAD;
        }
        int was = all.today;
        all.today = n;
        return was;
    }

    public int told(int what) {
        switch (what) {
            case 0: return all.today;
            case 1: return all.limit();
            default: return NONE;
        }
    }

    public int player(int kind, int v, int goal, int purse) {
        if (kind < 0 || kind >= KINDS) {
            return NONE;
        }
        if (!isDigit(v) || goal < LEAST_GOAL || goal > MOST_GOAL || purse < 0 || purse > goal) {
            return BAD;
        }
        if (all.playerCount >= MOST_PLAYERS) {
            return FULL;
        }
        int number = all.playerCount;
        all.players[number] = newPlayer(kind, number, v, goal);
        all.purses[number] = purse;
        for (int k = 0; k < ROW; k++) {
            all.rows[number * ROW + k] = 0;
        }
        all.playerCount++;
        return number;
    }

    public int of(int player, int what) {
        Penny p = all.playerAt(player);
        if (p == null) {
            return NONE;
        }
        int purse = all.purses[player];
        switch (what) {
            case 0: return p.kind;
            case 1: return p.v;
            case 2: return p.goal;
            case 3: return purse;
            case 4: return all.stake(p, purse);
            case 5: return p.isOver(purse) ? 0 : all.odds(p, purse, all.stake(p, purse));
            default: return NONE;
        }
    }

    public int purse(int player, int n) {
        Penny p = all.playerAt(player);
        if (p == null) {
            return NONE;
        }
        if (n < 0 || n > p.goal) {
            return BAD;
        }
        int was = all.purses[player];
        all.purses[player] = n;
        return was;
    }

    public int row(int player, int k, int n) {
        Penny p = all.playerAt(player);
        if (p == null || k < 0 || k >= ROW) {
            return NONE;
        }
        if (!isDigit(n)) {
            return BAD;
        }
        if (!(p instanceof Told)) {
            return STATE;
        }
        int place = player * ROW + k;
        int was = all.rows[place];
        all.rows[place] = n;
        return was;
    }

    public int play(int player, boolean won) {
        Penny p = all.playerAt(player);
        if (p == null) {
            return NONE;
        }
        int purse = all.purses[player];
        if (p.isOver(purse)) {
            return STATE;
        }
        all.purses[player] = all.thrown(p, purse, won);
        return all.purses[player];
    }

    // ---- chances: part 0 above, 1 below the line

    public long within(int player, int n, int q, int part) {
        Penny p = all.playerAt(player);
        if (p == null || !isSpan(n) || q < 0 || q > p.goal || !isPart(part)) {
            return NO;
        }
        chances.spread(all, p, n);
        return lowest(chances.now[q], chances.ways, part);
    }

    public long lasts(int player, int n, int part) {
        Penny p = all.playerAt(player);
        if (p == null || !isSpan(n) || !isPart(part)) {
            return NO;
        }
        chances.spread(all, p, n);
        return lowest(chances.made, chances.ways, part);
    }

    public long mean(int player, int n, int part) {
        Penny p = all.playerAt(player);
        if (p == null || !isSpan(n) || !isPart(part)) {
            return NO;
        }
        chances.spread(all, p, n);
        return lowest(chances.pennies(p.goal), chances.ways, part);
    }

    public long ever(int player, int part) {
        Penny p = all.playerAt(player);
        if (p == null || !isPart(part)) {
            return NO;
        }
        chances.lookAtPennyOdds(all, p);
        return lowest(chances.climbed(p.goal, all.purses[player]), chances.climbed(p.goal, p.goal), part);
    }

    public int best(int player, int n) {
        Penny p = all.playerAt(player);
        if (p == null) {
            return NONE;
        }
        if (!isSpan(n)) {
            return BAD;
        }
        chances.lookAtOdds(all, p);
        chances.search(p.goal, n, all.limit());
        return chances.firstStakes[all.purses[player]];
    }

    public long bestChance(int player, int n, int part) {
        Penny p = all.playerAt(player);
        if (p == null || !isSpan(n) || !isPart(part)) {
            return NO;
        }
        chances.lookAtOdds(all, p);
        chances.search(p.goal, n, all.limit());
        return lowest(chances.now[all.purses[player]], chances.ways, part);
    }

    public long loses(int player, int n, int part) {
        Penny p = all.playerAt(player);
        if (p == null || !isSpan(n) || !isPart(part)) {
            return NO;
        }
        chances.lookAtOdds(all, p);
        chances.search(p.goal, n, all.limit());
        long most = chances.now[all.purses[player]];
        chances.spread(all, p, n);
        return lowest(most - chances.now[p.goal], chances.ways, part);
    }

    public int room(int player, int n) {
        Penny p = all.playerAt(player);
        if (p == null) {
            return NONE;
        }
        if (!isSpan(n)) {
            return BAD;
        }
        int purse = all.purses[player];
        chances.lookAtOdds(all, p);
        chances.search(p.goal, n, NO_LIMIT);
        long most = chances.now[purse];
        for (int limit = 1; limit < MOST_STAKE; limit++) {
            chances.search(p.goal, n, limit);
            if (chances.now[purse] == most) {
                return limit;
            }
        }
        return MOST_STAKE;
    }

    public long trio(int abc, int n, int who, int part) {
        int a = abc / 100;
        int b = abc / 10 % 10;
        int c = abc % 10;
        if (!isTrioPurse(a) || !isTrioPurse(b) || !isTrioPurse(c)) {
            return NO;
        }
        if (n < 0 || n > MOST_TRIO_THROWS || who < 0 || who > 2 || !isPart(part)) {
            return NO;
        }
        chances.playTrio(a, b, a + b + c, n);
        return lowest(chances.outs[who], chances.ways, part);
    }

    public long streak(int o, int r, int n, int part) {
        if (o < 0 || o > 10 || r < 1 || r > MOST_STREAK || !isSpan(n) || !isPart(part)) {
            return NO;
        }
        long streaks = chances.streaks(o, r, n);
        return lowest(streaks, chances.ways, part);
    }

    // ---- throws told by hand

    public int toss(boolean won) {
        if (all.tosses >= MOST_TOSSES) {
            return FULL;
        }
        all.addToss(won);
        return all.tosses;
    }

    public int clear() {
        int were = all.tosses;
        all.tosses = 0;
        all.wonTosses = 0;
        return were;
    }

    public int by(int player, int what) {
        Penny p = all.playerAt(player);
        if (p == null || what < 0 || what > 4) {
            return NONE;
        }
        int first = all.purses[player];
        int purse = first;
        int made = 0;
        int top = first;
        int low = first;
        int back = 0;
        for (int i = 0; i < all.tosses && !p.isOver(purse); i++) {
            purse = all.thrown(p, purse, all.isWon(i));
            made++;
            top = Math.max(top, purse);
            low = Math.min(low, purse);
            back = purse == first ? made : back;
        }
        switch (what) {
            case 0: return purse;
            case 1: return made;
            case 2: return top;
            case 3: return low;
            default: return back;
        }
    }

    public int seen(int what) {
        switch (what) {
            case 0: return all.seemingOdds();
            case 1: return all.longestRun();
            default: return NONE;
        }
    }

    // ---- acts, the image

    public int act(int player, int act, int x) {
        ran[0] = 0;
        Penny p = all.playerAt(player);
        if (p == null) {
            return 0;
        }
        switch (act) {
            case 0: return p.stakesAct(x, ran);
            case 1: return p.throwsAct(x, ran);
            case 2: return p.countsAct(x, ran);
            default: return 0;
        }
    }

    public int trace(int i) {
        if (i < 0 || i >= ran[0] || i >= MOST_KEPT) {
            return NONE;
        }
        return ran[1 + i];
    }

    public int as(int player, int k) {
        Penny p = all.playerAt(player);
        if (p == null || k < 0 || k >= KINDS) {
            return NONE;
        }
        return isOfKind(p, k) ? p.v : ANOTHER_KIND;
    }

    public int image() {
        kept.become(all);
        hasImage = true;
        return all.playerCount;
    }

    public int undo() {
        if (!hasImage) {
            return STATE;
        }
        all.become(kept);
        return all.playerCount;
    }

    public int count(int what) {
        switch (what) {
            case 0: return all.playerCount;
            case 1: return all.tableCount;
            case 2: return all.tosses;
            case 3: return all.signs;
            case 4: return ran[0];
            default: return NONE;
        }
    }

    // ---- what several calls share

    private static boolean isDigit(int n) {
        return n >= 0 && n <= 9;
    }

    private static boolean isSpan(int n) {
        return n >= 0 && n <= MOST_THROWS;
    }

    private static boolean isPart(int part) {
        return part == 0 || part == 1;
    }

    private static boolean isTrioPurse(int n) {
        return n >= 1 && n <= MOST_TRIO_PENNIES;
    }

    private static boolean isOfKind(Penny p, int kind) {
        switch (kind) {
            case 0: return true;
            case 1: return p instanceof Bold;
            case 2: return p instanceof Timid;
            case 3: return p instanceof Systematic;
            case 4: return p instanceof Drunk;
            case 5: return p instanceof Careful;
            case 6: return p instanceof Told;
            default: return false;
        }
    }

    private static Penny newPlayer(int kind, int number, int v, int goal) {
        switch (kind) {
            case 1: return new Bold(kind, number, v, goal);
            case 2: return new Timid(kind, number, v, goal);
            case 3: return new Systematic(kind, number, v, goal);
            case 4: return new Drunk(kind, number, v, goal);
            case 5: return new Careful(kind, number, v, goal);
            case 6: return new Told(kind, number, v, goal);
            default: return new Penny(kind, number, v, goal);
        }
    }

    /** A part of above / below in lowest terms; neither is negative, below is at least 1. */
    private static long lowest(long above, long below, int part) {
        long a = below;
        long b = above;
        // Euclid needs fewer than 100 rounds for any two longs
        for (int i = 0; i < 100 && b != 0; i++) {
            long left = a % b;
            a = b;
            b = left;
        }
        long shared = Math.max(1, a);
        return part == 0 ? above / shared : below / shared;
    }

    /** A player never changes: what does change of it (PURSE, ROW) stands in State, so that an image is cheap. */
    private static class Penny {
        final int kind;
        final int number;
        final int v;
        final int goal;

        Penny(int kind, int number, int v, int goal) {
            this.kind = kind;
            this.number = number;
            this.v = v;
            this.goal = goal;
        }

        final boolean isOver(int purse) {
            return purse <= 0 || purse >= goal;
        }

        /** The stake before it is cut to what may be staked; inRow is the number of the ROW at this purse. */
        int wish(int purse, int inRow) {
            return 1;
        }

        int stakesAct(int x, int[] ran) {
            began(1, ran);
            return x + number;
        }

        int throwsAct(int x, int[] ran) {
            began(2, ran);
            return stakesAct(x, ran) - v;
        }

        int countsAct(int x, int[] ran) {
            began(3, ran);
            return throwsAct(x, ran) * 2;
        }

        static void began(int body, int[] ran) {
            if (ran[0] >= 0 && ran[0] < MOST_KEPT) {
                ran[1 + ran[0]] = body;
            }
            ran[0]++;
        }
    }

    private static class Bold extends Penny {
        Bold(int kind, int number, int v, int goal) {
            super(kind, number, v, goal);
        }

        @Override
        int wish(int purse, int inRow) {
            return Math.min(purse, goal - purse);
        }

        @Override
        int stakesAct(int x, int[] ran) {
            began(11, ran);
            return super.stakesAct(x * 3, ran);
        }
    }

    private static class Timid extends Penny {
        Timid(int kind, int number, int v, int goal) {
            super(kind, number, v, goal);
        }

        @Override
        int wish(int purse, int inRow) {
            return 1 + v % 3;
        }

        @Override
        int throwsAct(int x, int[] ran) {
            began(21, ran);
            return -super.throwsAct(x, ran);
        }
    }

    private static class Systematic extends Penny {
        Systematic(int kind, int number, int v, int goal) {
            super(kind, number, v, goal);
        }

        @Override
        int wish(int purse, int inRow) {
            int system = Math.max(2, v + 2);
            return 1 + purse % system;
        }

        @Override
        int countsAct(int x, int[] ran) {
            began(31, ran);
            return super.countsAct(x, ran) ^ 7;
        }
    }

    private static final class Drunk extends Bold {
        Drunk(int kind, int number, int v, int goal) {
            super(kind, number, v, goal);
        }

        @Override
        int wish(int purse, int inRow) {
            return (super.wish(purse, inRow) + 1) / 2;
        }

        @Override
        int countsAct(int x, int[] ran) {
            began(41, ran);
            int counted = super.countsAct(x - 1, ran);
            return counted + stakesAct(2, ran);
        }
    }

    private static final class Careful extends Timid {
        Careful(int kind, int number, int v, int goal) {
            super(kind, number, v, goal);
        }

        @Override
        int wish(int purse, int inRow) {
            return Math.max(1, Math.min(super.wish(purse, inRow), purse / 4));
        }

        @Override
        int stakesAct(int x, int[] ran) {
            began(51, ran);
            return super.stakesAct(x, ran) ^ number;
        }
    }

    private static final class Told extends Systematic {
        Told(int kind, int number, int v, int goal) {
            super(kind, number, v, goal);
        }

        @Override
        int wish(int purse, int inRow) {
            return inRow != 0 ? inRow : super.wish(purse, inRow);
        }

        @Override
        int throwsAct(int x, int[] ran) {
            began(61, ran);
            return super.throwsAct(x, ran) + v;
        }
    }

    /** All that an image keeps. */
    private static final class State {
        final byte[] tape = new byte[MOST_SIGNS];
        int signs;
        final Table[] tables = new Table[MOST_TABLES];
        int tableCount;
        final Penny[] players = new Penny[MOST_PLAYERS];
        final int[] purses = new int[MOST_PLAYERS];
        final int[] rows = new int[MOST_PLAYERS * ROW];
        int playerCount;
        int today;
        int tosses;
        /** Bit i: toss i was won. */
        int wonTosses;
        /** What a TEST can look at, in the order of Reader.SEEN; filled anew for each look. */
        private final int[] sight = new int[6];

        void become(State other) {
            System.arraycopy(other.tape, 0, tape, 0, MOST_SIGNS);
            signs = other.signs;
            for (int i = 0; i < MOST_TABLES; i++) {
                tables[i] = other.tables[i];
            }
            tableCount = other.tableCount;
            for (int i = 0; i < MOST_PLAYERS; i++) {
                players[i] = other.players[i];
            }
            System.arraycopy(other.purses, 0, purses, 0, MOST_PLAYERS);
            System.arraycopy(other.rows, 0, rows, 0, MOST_PLAYERS * ROW);
            playerCount = other.playerCount;
            today = other.today;
            tosses = other.tosses;
            wonTosses = other.wonTosses;
        }

        Penny playerAt(int i) {
            return i >= 0 && i < playerCount && i < MOST_PLAYERS ? players[i] : null;
        }

        private Table holding() {
            int newest = tableCount - 1;
            return newest >= 0 && newest < MOST_TABLES ? tables[newest] : null;
        }

        int limit() {
            Table t = holding();
            return t == null ? NO_LIMIT : t.limit;
        }

        /** 0, if the player is OVER: then either bound is 0. */
        int stake(Penny p, int purse) {
            int wish = p.wish(purse, rows[p.number * ROW + (purse & 3)]);
            int most = Math.min(purse, p.goal - purse);
            return Math.min(Math.min(wish, most), limit());
        }

        int odds(Penny p, int purse, int stake) {
            Table t = holding();
            if (t == null) {
                return 5;
            }
            sight[0] = p.number;
            sight[1] = p.kind;
            sight[2] = purse;
            sight[3] = p.goal - purse;
            sight[4] = stake;
            sight[5] = today;
            return Math.max(1, Math.min(9, 5 + t.leaning(sight)));
        }

        int thrown(Penny p, int purse, boolean won) {
            int stake = stake(p, purse);
            return won ? purse + stake : purse - stake;
        }

        void addToss(boolean won) {
            if (won) {
                wonTosses |= 1 << tosses;
            }
            tosses++;
        }

        boolean isWon(int i) {
            return (wonTosses >> i & 1) == 1;
        }

        int seemingOdds() {
            if (tosses == 0) {
                return NO_THROWS;
            }
            int tenfold = 10 * Integer.bitCount(wonTosses);
            int seeming = 0;
            for (int o = 1; o <= 10; o++) {
                if (Math.abs(tenfold - o * tosses) < Math.abs(tenfold - seeming * tosses)) {
                    seeming = o;
                }
            }
            return seeming;
        }

        int longestRun() {
            int longest = 0;
            int run = 0;
            for (int i = 0; i < tosses; i++) {
                run = i > 0 && isWon(i) == isWon(i - 1) ? run + 1 : 1;
                longest = Math.max(longest, run);
            }
            return longest;
        }
    }

    /** A TABLE that was read; it never changes. */
    private static final class Table {
        /** Of each lean its n, of each tilt its n negated. */
        private final int[] weights;
        /** Where the code of each clause ends; it begins where the one ahead ends. */
        private final int[] ends;
        /** The E of all clauses, operands ahead of what joins them. */
        private final int[] code;
        final int limit;

        Table(int[] weights, int[] ends, int[] code, int limit) {
            this.weights = weights;
            this.ends = ends;
            this.code = code;
            this.limit = limit;
        }

        int leaning(int[] sight) {
            int sum = 0;
            int from = 0;
            for (int i = 0; i < weights.length && i < ends.length; i++) {
                if (holds(from, ends[i], sight)) {
                    sum += weights[i];
                }
                from = ends[i];
            }
            return sum;
        }

        /** The open answers lie in the bits of a long, the newest lowest: five brackets leave at most 13 open. */
        private boolean holds(int from, int to, int[] sight) {
            long open = 0;
            for (int i = Math.max(0, from); i < to && i < code.length; i++) {
                long newest = open & 1;
                switch (code[i]) {
                    case Reader.NOT:
                        open ^= 1;
                        break;
                    case Reader.AND:
                        open = open >> 1 & (newest | ~1L);
                        break;
                    case Reader.OR:
                        open = open >> 1 | newest;
                        break;
                    default:
                        open = open << 1 | (passes(code[i], sight) ? 1 : 0);
                }
            }
            return (open & 1) == 1;
        }

        private static boolean passes(int test, int[] sight) {
            int what = test / 300;
            int seen = what >= 0 && what < sight.length ? sight[what] : 0;
            int number = test % 100;
            switch (test / 100 % 3) {
                case 0: return seen < number;
                case 1: return seen == number;
                default: return seen > number;
            }
        }
    }

    /** Reads a TABLE; wherever it gives up, at is the FAULT. */
    private static final class Reader {
        static final int NOT = -1, AND = -2, OR = -3;
        private static final int NO_WORD = 0, LEAN = 1, TILT = 2, LIMIT = 3;
        private static final String SEEN = "nkpgsd", COMPARED = "<=>", DIGITS = "0123456789";

        private byte[] text;
        private int size;
        int at;
        private final int[] weights = new int[MOST_CLAUSES];
        private final int[] ends = new int[MOST_CLAUSES];
        private int leanings;
        /** Each part of the code has a byte of its own in the text, so it is never longer. */
        private final int[] code = new int[MOST_SIGNS];
        private int codeSize;
        private int limit;

        boolean read(byte[] tape, int signs) {
            text = tape;
            size = Math.min(signs, tape.length);
            at = 0;
            leanings = 0;
            codeSize = 0;
            limit = NO_LIMIT;
            for (int i = 1; i <= MOST_CLAUSES; i++) {
                if (!readClause()) {
                    return false;
                }
                if (at >= size) {
                    return true;
                }
                if (i == MOST_CLAUSES || !take(';')) {
                    return false;
                }
            }
            return false;
        }

        Table made() {
            return new Table(Arrays.copyOf(weights, leanings), Arrays.copyOf(ends, leanings),
                    Arrays.copyOf(code, codeSize), limit);
        }

        private boolean take(char sign) {
            if (text == null || at >= size || text[at] != sign) {
                return false;
            }
            at++;
            return true;
        }

        private boolean takeAll(String signs) {
            for (int i = 0; i < signs.length(); i++) {
                if (!take(signs.charAt(i))) {
                    return false;
                }
            }
            return true;
        }

        /** Which of the signs comes next, and is taken; -1: none of them. */
        private int takeOneOf(String signs) {
            int found = text == null || at >= size ? -1 : signs.indexOf((char) text[at]);
            if (found >= 0) {
                at++;
            }
            return found;
        }

        private int readNumber() {
            int first = takeOneOf(DIGITS);
            if (first <= 0) {
                return first;
            }
            int second = takeOneOf(DIGITS);
            return second < 0 ? first : first * 10 + second;
        }

        private boolean readClause() {
            int word = readWord();
            int n = word == NO_WORD ? -1 : readNumber();
            if (n < 0) {
                return false;
            }
            if (word == LIMIT) {
                limit = Math.max(1, n);
                return true;
            }
            if (!take(' ') || !readEither(0) || leanings >= MOST_CLAUSES) {
                return false;
            }
            weights[leanings] = word == LEAN ? n : -n;
            ends[leanings] = codeSize;
            leanings++;
            return true;
        }

        /** A clause's word and the blank behind it. */
        private int readWord() {
            if (take('t')) {
                return takeAll("ilt ") ? TILT : NO_WORD;
            }
            if (!take('l')) {
                return NO_WORD;
            }
            if (take('e')) {
                return takeAll("an ") ? LEAN : NO_WORD;
            }
            return takeAll("imit ") ? LIMIT : NO_WORD;
        }

        /** E, with its T in the inner loop; open tells how many of ! and ( are open around it. */
        private boolean readEither(int open) {
            for (int ts = 0; ts < MOST_SIGNS; ts++) {
                for (int fs = 0; fs == 0 || fs < MOST_SIGNS && take('&'); fs++) {
                    if (!readSingle(open)) {
                        return false;
                    }
                    if (fs > 0) {
                        put(AND);
                    }
                }
                if (ts > 0) {
                    put(OR);
                }
                if (!take('|')) {
                    return true;
                }
            }
            return false;
        }

        /** F. */
        private boolean readSingle(int open) {
            if (open >= MOST_OPEN) {
                return readTest();
            }
            if (take('!')) {
                if (!readSingle(open + 1)) {
                    return false;
                }
                put(NOT);
                return true;
            }
            if (take('(')) {
                return readEither(open + 1) && take(')');
            }
            return readTest();
        }

        private boolean readTest() {
            int what = takeOneOf(SEEN);
            if (what < 0) {
                return false;
            }
            int how = takeOneOf(COMPARED);
            if (how < 0) {
                return false;
            }
            int number = readNumber();
            if (number < 0) {
                return false;
            }
            put((what * 3 + how) * 100 + number);
            return true;
        }

        private void put(int part) {
            if (codeSize < MOST_SIGNS) {
                code[codeSize] = part;
                codeSize++;
            }
        }
    }

    /** Chances as counts out of so many ways; its rows are made once and used by every call. */
    private static final class Chances {
        /** The six ways of a trio: who gives a penny to whom. */
        private static final int[] GIVERS = {0, 0, 1, 1, 2, 2};
        private static final int[] TAKERS = {1, 2, 0, 2, 0, 1};
        private static final int PURSES = MOST_GOAL + 1;

        /** Behind spread by PURSE how many ways lead to it, behind search from it to GOAL. */
        final long[] now = new long[PURSES];
        private final long[] next = new long[PURSES];
        /** How many ways there are in all. */
        long ways;
        /** THROWS that are made, over all ways together. */
        long made;
        final int[] firstStakes = new int[PURSES];
        private final int[] stakes = new int[PURSES];
        private final int[] odds = new int[PURSES];
        /** By PURSE and stake. */
        private final int[] anyOdds = new int[PURSES * (MOST_STAKE + 1)];
        /** By what the first and the second of a trio have. */
        private long[] trioNow = new long[PURSES * PURSES];
        private long[] trioNext = new long[PURSES * PURSES];
        private final int[] trioHas = new int[3];
        final long[] outs = new long[3];

        void spread(State all, Penny p, int n) {
            for (int q = 1; q < p.goal; q++) {
                stakes[q] = all.stake(p, q);
                odds[q] = all.odds(p, q, stakes[q]);
            }
            Arrays.fill(now, 0);
            now[all.purses[p.number]] = 1;
            ways = 1;
            made = 0;
            for (int i = 0; i < n; i++) {
                spreadOnce(p.goal);
            }
        }

        private void spreadOnce(int goal) {
            Arrays.fill(next, 0);
            next[0] = now[0] * 10;
            next[goal] = now[goal] * 10;
            for (int q = 1; q < goal; q++) {
                next[q + stakes[q]] += now[q] * odds[q];
                next[q - stakes[q]] += now[q] * (10 - odds[q]);
                made += now[q];
            }
            made *= 10;
            ways *= 10;
            System.arraycopy(next, 0, now, 0, PURSES);
        }

        /** The purses of all ways together, behind spread. */
        long pennies(int goal) {
            long sum = 0;
            for (int q = 1; q <= goal; q++) {
                sum += q * now[q];
            }
            return sum;
        }

        void lookAtPennyOdds(State all, Penny p) {
            for (int q = 1; q < p.goal; q++) {
                odds[q] = all.odds(p, q, 1);
            }
        }

        /**
         * By penny stakes the chance to have GOAL before 0 grows, from purse j to j + 1, by a share that is as the odds
         * to lose at 1 .. j, times those to win at j + 1 .. GOAL - 1: the shares below a purse, together.
         */
        long climbed(int goal, int purse) {
            long sum = 0;
            for (int j = 0; j < purse; j++) {
                long share = 1;
                for (int q = 1; q < goal; q++) {
                    share *= q <= j ? 10 - odds[q] : odds[q];
                }
                sum += share;
            }
            return sum;
        }

        /** Apart from search, since ROOM searches seven times by the same odds. */
        void lookAtOdds(State all, Penny p) {
            for (int q = 1; q < p.goal; q++) {
                int most = Math.min(q, p.goal - q);
                for (int s = 1; s <= most; s++) {
                    anyOdds[q * (MOST_STAKE + 1) + s] = all.odds(p, q, s);
                }
            }
        }

        void search(int goal, int n, int limit) {
            Arrays.fill(now, 0);
            Arrays.fill(firstStakes, 0);
            now[goal] = 1;
            ways = 1;
            for (int i = 0; i < n; i++) {
                Arrays.fill(next, 0);
                for (int q = 1; q < goal; q++) {
                    chooseStake(q, Math.min(limit, Math.min(q, goal - q)));
                }
                next[goal] = now[goal] * 10;
                ways *= 10;
                System.arraycopy(next, 0, now, 0, PURSES);
            }
        }

        private void chooseStake(int q, int most) {
            long greatest = -1;
            for (int s = 1; s <= most; s++) {
                int o = anyOdds[q * (MOST_STAKE + 1) + s];
                long chance = now[q + s] * o + now[q - s] * (10 - o);
                if (chance > greatest) {
                    greatest = chance;
                    firstStakes[q] = s;
                }
            }
            next[q] = greatest;
        }

        void playTrio(int a, int b, int total, int n) {
            Arrays.fill(trioNow, 0);
            Arrays.fill(outs, 0);
            trioNow[a * PURSES + b] = 1;
            ways = 1;
            for (int i = 0; i < n; i++) {
                playTrioOnce(total);
            }
        }

        private void playTrioOnce(int total) {
            Arrays.fill(trioNext, 0);
            for (int who = 0; who < 3; who++) {
                outs[who] *= 6;
            }
            for (int a = 1; a < total; a++) {
                for (int b = 1; a + b < total; b++) {
                    if (trioNow[a * PURSES + b] != 0) {
                        giveAPenny(a, b, total);
                    }
                }
            }
            ways *= 6;
            long[] spare = trioNow;
            trioNow = trioNext;
            trioNext = spare;
        }

        private void giveAPenny(int a, int b, int total) {
            long here = trioNow[a * PURSES + b];
            for (int way = 0; way < 6; way++) {
                int giver = GIVERS[way];
                trioHas[0] = a;
                trioHas[1] = b;
                trioHas[2] = total - a - b;
                trioHas[giver]--;
                trioHas[TAKERS[way]]++;
                if (trioHas[giver] == 0) {
                    outs[giver] += here;
                } else {
                    trioNext[trioHas[0] * PURSES + trioHas[1]] += here;
                }
            }
        }

        /** In how many ways r losses come one behind the other; now holds, below r, the rest by the losses at its end. */
        long streaks(int o, int r, int n) {
            Arrays.fill(now, 0);
            now[0] = 1;
            ways = 1;
            long streaks = 0;
            for (int i = 0; i < n; i++) {
                Arrays.fill(next, 0);
                for (int losses = 0; losses < r; losses++) {
                    next[0] += now[losses] * o;
                    next[losses + 1] += now[losses] * (10 - o);
                }
                streaks = streaks * 10 + next[r];
                ways *= 10;
                System.arraycopy(next, 0, now, 0, PURSES);
            }
            return streaks;
        }
    }
}
