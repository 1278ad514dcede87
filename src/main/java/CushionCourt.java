import java.util.NoSuchElementException;

public final class CushionCourt {
    public static final int NONE = -1;

    private static final int NOT_SO_MANY = -2;
    private static final int CANNOT_BE = -3;

    private static final int MOST_BYTES = 700;
    private static final int MOST_JUDGES = 5;
    private static final int ALL_CUSHIONS = (1 << MOST_JUDGES) - 1;
    private static final int MOST_CASES = 10;
    private static final int MOST_CLERKS = 5;
    private static final int MOST_DAMPS = 8;
    private static final int MOST_KNOTS = 64;
    private static final int MOST_OPEN = 8;
    private static final int MOST_LETTERS = 6;
    private static final int MOST_FEATHERS = 8;
    private static final int MOST_DEEDS = 20;
    private static final int MOST_FOUND = 24;
    private static final int MOST_DAYS = 99;
    private static final int LAST_DAY = 9900;
    private static final int LAST_DAMP_DAY = 9999;
    private static final int MOST_MONDAYS = 4;
    private static final int MOST_RESTUFF_MONDAYS = 20;
    private static final int MOST_DEALT = 6;
    private static final int MOST_TO_ONE = 2;
    private static final int MOST_BRIBE = 4;
    private static final int TIMES_DRAWN = 10;
    private static final int WEEK = 7;

    private static final int BARE_BEAT = 1;
    private static final int HARDEST_BEAT = 9;
    private static final int STIFF_ENOUGH = 5;
    private static final int NEAR = 10;

    private static final int NO_FEATHER = 0;
    private static final int IN_CUSHION = 1;
    private static final int OUT = 2;
    private static final int LOST = 3;

    private static final int THINK = 0;
    private static final int SAY = 1;
    private static final int FLY = 2;
    private static final int LAWS = 3;

    // A knot of 0 and more is a number; those from LAST_NAME to -1 are names.
    private static final int LAST_NAME = -7;
    private static final int OR = -8;
    private static final int AND = -9;
    private static final int NOT = -10;
    private static final int LESS = -11;
    private static final int AT_MOST = -12;
    private static final int SAME = -13;
    private static final int OTHER = -14;
    private static final int AT_LEAST = -15;
    private static final int MORE = -16;
    private static final int PLUS = -17;
    private static final int MINUS = -18;
    private static final int TIMES = -19;
    private static final int BY = -20;
    private static final int OPEN = -21;
    private static final int CLOSE = -22;
    private static final int STOP = -23;

    private final byte[] tape = new byte[MOST_BYTES];
    private int tapeLength;
    private int lastFault;
    private int lastFaultPlace = NONE;
    private final Book told = new Book();
    private final Book draft = new Book();
    private final Reader reader = new Reader(tape, draft);
    private final World now = new World();
    private final World trial = new World();
    private final World image = new World();
    private boolean hasImage;
    private final Mind mind = new Mind();
    private final Term term = new Term(told, mind);
    private final Deeds deeds = new Deeds();
    private final Findings findings = new Findings();
    private final Dealing dealing = new Dealing();

    public CushionCourt() {
        now.begin(told);
    }

    public int feed(int a, int b, int c, int d, int e) {
        if (tapeLength + 20 > MOST_BYTES) {
            return NONE;
        }
        putBytes(a);
        putBytes(b);
        putBytes(c);
        putBytes(d);
        putBytes(e);
        return tapeLength;
    }

    private void putBytes(int number) {
        for (int shift = 24; shift >= 0 && tapeLength < MOST_BYTES; shift -= 8) {
            tape[tapeLength] = (byte) (number >> shift);
            tapeLength++;
        }
    }

    public int text(int n) {
        if (n < 0 || n > tapeLength) {
            return NOT_SO_MANY;
        }
        tapeLength = 0;
        reader.read(n);
        lastFault = reader.fault;
        lastFaultPlace = reader.faultPlace;
        if (lastFault != 0) {
            return NONE;
        }
        told.copyFrom(draft);
        now.begin(told);
        findings.clear();
        deeds.clear();
        hasImage = false;
        return told.lines;
    }

    public int fault(int what) {
        switch (what) {
            case 0:
                return lastFault;
            case 1:
                return lastFaultPlace;
            default:
                return NONE;
        }
    }

    public int named(int what, int letters) {
        switch (what) {
            case 0:
                return placeOf(letters, told.judgeName, told.judges);
            case 1:
                return placeOf(letters, told.caseName, told.cases);
            case 2:
                return placeOf(letters, told.clerkName, told.clerks);
            default:
                return NONE;
        }
    }

    private static int placeOf(int letters, int[] names, int many) {
        for (int i = 0; i < many && i < names.length; i++) {
            if (names[i] == letters) {
                return i;
            }
        }
        return NONE;
    }

    private boolean isJudge(int judge) {
        return judge >= 0 && judge < told.judges;
    }

    private boolean isCase(int cause) {
        return cause >= 0 && cause < told.cases;
    }

    private boolean isClerk(int clerk) {
        return clerk >= 0 && clerk < told.clerks;
    }

    private static boolean isSpan(int n) {
        return n >= 0 && n <= MOST_DAYS;
    }

    public int cause(int cause, int what) throws IndexOutOfBoundsException, NoSuchElementException {
        if (!isCase(cause)) {
            throw new IndexOutOfBoundsException("no such case");
        }
        switch (what) {
            case 0:
                return now.before[cause];
            case 1:
                return told.day[cause];
            case 2:
                return told.grave[cause];
            case 3:
                return now.thought[cause];
            case 4:
                return now.said[cause];
            case 5:
                return now.fate[cause];
            default:
                throw new NoSuchElementException("no such what");
        }
    }

    public int judge(int judge, int what) {
        if (!isJudge(judge)) {
            return NONE;
        }
        int cushion = now.holds[judge];
        switch (what) {
            case 0:
                return told.lean[judge];
            case 1:
                return told.stiff[judge];
            case 2:
                return cushion;
            case 3:
                return now.size[cushion];
            case 4:
                return now.isKeptIn(cushion) ? 1 : 0;
            case 5:
                return heardBy(judge);
            default:
                return NONE;
        }
    }

    private int heardBy(int judge) {
        int heard = 0;
        for (int i = 0; i < told.cases; i++) {
            if (now.before[i] == judge && now.said[i] != NONE) {
                heard++;
            }
        }
        return heard;
    }

    public int feather(int judge, int k) {
        if (!isJudge(judge) || k < 0) {
            return NONE;
        }
        int cushion = now.holds[judge];
        return k < now.size[cushion] ? now.feathers[cushion * MOST_FEATHERS + k] : NOT_SO_MANY;
    }

    public int knows(int clerk) {
        return isClerk(clerk) ? now.heard[clerk] : NONE;
    }

    public int damp(int day) {
        return day >= 0 && day <= LAST_DAMP_DAY ? told.moistOn(day) : NONE;
    }

    public long law(int what, int which) {
        if (what == FLY) {
            if (!isJudge(which)) {
                return Long.MIN_VALUE;
            }
            term.seeCushion(now, which, told.moistOn(now.day));
        } else if (what == THINK || what == SAY) {
            if (!isCase(which)) {
                return Long.MIN_VALUE;
            }
            term.seeCase(now, which, now.before[which], told.moistOn(now.day));
        } else {
            return Long.MIN_VALUE;
        }
        return mind.works(told.laws, what) ? mind.value : Long.MIN_VALUE;
    }

    public boolean exchange(int one, int other) {
        if (!isJudge(one) || !isJudge(other) || one == other) {
            return false;
        }
        now.swap(one, other);
        deeds.note(Deeds.EXCHANGED, one, other);
        return true;
    }

    public boolean keepIn(int judge, boolean is) {
        if (!isJudge(judge)) {
            return false;
        }
        int cushion = now.holds[judge];
        if (now.isKeptIn(cushion) == is) {
            return false;
        }
        now.setKeptIn(cushion, is);
        deeds.note(Deeds.KEPT, cushion, 0);
        return true;
    }

    public int restuff(int judge) {
        if (!isJudge(judge)) {
            return NONE;
        }
        int cushion = now.holds[judge];
        int lost = now.size[cushion];
        now.empty(cushion);
        deeds.note(Deeds.RESTUFFED, cushion, lost);
        return lost;
    }

    public boolean give(int cause, int judge) {
        if (!isCase(cause) || !isJudge(judge) || now.said[cause] != NONE || now.before[cause] == judge) {
            return false;
        }
        deeds.note(Deeds.GIVEN, cause, now.before[cause]);
        now.before[cause] = judge;
        return true;
    }

    public int days(int n) {
        if (!isSpan(n) || now.day + n > LAST_DAY) {
            return NONE;
        }
        if (n > 0) {
            deeds.clear();
        }
        term.asTold();
        term.pass(now, n);
        return now.day;
    }

    private void beginTrial() {
        trial.copyFrom(now);
        term.asTold();
    }

    public int ahead(int n, int what) {
        if (!isSpan(n) || what < 0 || what > 3) {
            return NONE;
        }
        beginTrial();
        term.pass(trial, n);
        switch (what) {
            case 0:
                return trial.guilty() - now.guilty();
            case 1:
                return Integer.bitCount(trial.knownToAny() & ~now.knownToAny());
            case 2:
                return trial.fated(LOST) - now.fated(LOST);
            default:
                return outMore();
        }
    }

    private int outMore() {
        return trial.fated(OUT) - now.fated(OUT);
    }

    private int daysToMonday() {
        return (WEEK - now.day % WEEK) % WEEK;
    }

    public int airing(int n, int what) {
        if (n < 1 || n > MOST_MONDAYS || what < 0 || what > MOST_JUDGES) {
            return NONE;
        }
        boolean all = what == MOST_JUDGES;
        int end = all ? told.judges : Math.min(told.judges, what + 1);
        int best = NOT_SO_MANY;
        int sum = 0;
        // A case's feather lies in one cushion alone: each cushion's best Monday is best for all.
        for (int cushion = all ? 0 : what; cushion < end; cushion++) {
            int least = Integer.MAX_VALUE;
            for (int monday = 0; monday < n; monday++) {
                int heard = heardOf(cushion, monday);
                if (heard < least) {
                    least = heard;
                    best = monday;
                }
            }
            sum += least;
        }
        return all ? sum : best;
    }

    /** What clerks know more, if just this cushion is aired, on just this Monday; behind it nothing is heard. */
    private int heardOf(int cushion, int monday) {
        int aired = daysToMonday() + WEEK * monday;
        beginTrial();
        trial.keptIn = ALL_CUSHIONS;
        for (int i = 0; i <= aired; i++) {
            trial.setKeptIn(cushion, i != aired);
            term.passDay(trial);
        }
        return trial.knownInAll() - now.knownInAll();
    }

    public int away() {
        beginTrial();
        term.pass(trial, daysToMonday() + 1);
        int clerks = 0;
        for (int i = 0; i < told.clerks; i++) {
            // A feather that is still in a cushion was never heard, so who hears one knows more.
            if (trial.heard[i] != now.heard[i]) {
                clerks |= 1 << i;
            }
        }
        return clerks;
    }

    public int given(int what) {
        if (what < 0 || what > MOST_DEALT) {
            return NONE;
        }
        dealing.gather(told, now);
        if (what < MOST_DEALT && what >= dealing.cases) {
            return NOT_SO_MANY;
        }
        if (dealing.cases > MOST_TO_ONE * told.judges) {
            return CANNOT_BE;
        }
        dealing.weigh(told);
        return what == MOST_DEALT ? dealing.least[0] : dealing.judgeOf(told, what);
    }

    public int lot(int cause, int what) {
        if (!isCase(cause) || what < 0 || what > 1) {
            return NONE;
        }
        int guilty = 0;
        int moist = told.moistOn(now.day);
        for (int i = 0; i < told.judges; i++) {
            term.seeCase(now, cause, i, moist);
            if (mind.thinksGuilty(told.laws)) {
                guilty++;
            }
        }
        return leastTerm(guilty, told.judges, what);
    }

    /** The number above (what 0) or below (1) of a fraction; 0 by 1, if it is of none. */
    private static int leastTerm(int above, int below, int what) {
        if (below <= 0) {
            return what;
        }
        int common = commonDivisor(above, below);
        int term = what == 0 ? above : below;
        return common > 0 ? term / common : term;
    }

    private static int commonDivisor(int a, int b) {
        int one = a;
        int other = b;
        // Euclid's rests halve at least every second step, so 64 steps are plenty.
        for (int i = 0; i < 64 && other != 0; i++) {
            int rest = one % other;
            one = other;
            other = rest;
        }
        return one;
    }

    public int clashes() {
        int clashes = 0;
        for (int i = 0; i < told.cases; i++) {
            for (int k = 0; k < told.cases; k++) {
                if (now.said[i] == 1 && now.said[k] == 0 && told.grave[i] < told.grave[k]) {
                    clashes++;
                }
            }
        }
        return clashes;
    }

    public int bold(int judge, int what) {
        if (!isJudge(judge) || what < 0 || what > 1) {
            return NONE;
        }
        int otherwise = 0;
        for (int i = 0; i < told.cases; i++) {
            if (now.before[i] == judge && now.said[i] != now.thought[i]) {
                otherwise++;
            }
        }
        return leastTerm(otherwise, heardBy(judge), what);
    }

    public int rests(int judge) {
        if (!isJudge(judge)) {
            return NONE;
        }
        int feathers = now.size[now.holds[judge]];
        int rests = 0;
        for (int one = 0; one <= MOST_BRIBE; one++) {
            for (int other = 0; other <= MOST_BRIBE; other++) {
                if (isRest(feathers, one, other)) {
                    rests++;
                }
            }
        }
        return rests;
    }

    public int rest(int judge, int k) {
        if (!isJudge(judge) || k < 0) {
            return NONE;
        }
        int feathers = now.size[now.holds[judge]];
        int rests = 0;
        for (int one = 0; one <= MOST_BRIBE; one++) {
            for (int other = 0; other <= MOST_BRIBE; other++) {
                if (isRest(feathers, one, other)) {
                    if (rests == k) {
                        return 10 * one + other;
                    }
                    rests++;
                }
            }
        }
        return NOT_SO_MANY;
    }

    private static boolean isRest(int feathers, int one, int other) {
        for (int instead = 0; instead <= MOST_BRIBE; instead++) {
            if (gain(feathers, instead, other) > gain(feathers, one, other)
                    || gain(feathers, instead, one) > gain(feathers, other, one)) {
                return false;
            }
        }
        return true;
    }

    private static int gain(int feathers, int mine, int others) {
        if (mine > others) {
            return feathers - mine;
        }
        return mine == others ? feathers / 2 - mine : -mine;
    }

    public int empties(int judge) {
        if (!isJudge(judge)) {
            return NONE;
        }
        int cushion = now.holds[judge];
        if (now.size[cushion] == 0) {
            return 0;
        }
        beginTrial();
        trial.setKeptIn(cushion, false);
        term.pass(trial, daysToMonday());
        for (int mondays = 1; mondays <= MOST_RESTUFF_MONDAYS; mondays++) {
            term.passDay(trial);
            if (trial.size[cushion] == 0) {
                return mondays;
            }
            term.pass(trial, WEEK - 1);
        }
        return NOT_SO_MANY;
    }

    public int plumpest() {
        int best = NONE;
        int most = NONE;
        for (int i = 0; i < told.judges; i++) {
            int feathers = now.size[now.holds[i]];
            if (feathers > most) {
                most = feathers;
                best = i;
            }
        }
        return best;
    }

    public int gossip(int cause) {
        if (!isCase(cause)) {
            return NONE;
        }
        int clerks = 0;
        for (int i = 0; i < told.clerks; i++) {
            if ((now.heard[i] >> cause & 1) != 0) {
                clerks |= 1 << i;
            }
        }
        return clerks;
    }

    public int learns(int clerk, int n) {
        if (!isClerk(clerk) || n < 1 || n > MOST_DAYS) {
            return NONE;
        }
        beginTrial();
        for (int i = 1; i <= n; i++) {
            term.passDay(trial);
            if (trial.heard[clerk] != now.heard[clerk]) {
                return i;
            }
        }
        return NOT_SO_MANY;
    }

    public int plump(int judge, int n) {
        if (!isJudge(judge) || !isSpan(n)) {
            return NONE;
        }
        beginTrial();
        term.pass(trial, n);
        return trial.size[now.holds[judge]];
    }

    public int find(int cause, int judge, boolean is) {
        return isCase(cause) && isJudge(judge) ? findings.add(cause, judge, is ? 1 : 0) : NONE;
    }

    public int strike(int found) {
        return found >= 0 && found < findings.many ? findings.add(found, NONE, Findings.STRIKE) : NONE;
    }

    public boolean known(int n) {
        if (n < NONE || n > findings.many) {
            return false;
        }
        findings.knownBy = n;
        return true;
    }

    public int ways() {
        findings.match(told, now);
        return findings.waysWith(told.judges, NONE, 0);
    }

    public int whose(int judge) {
        if (!isJudge(judge)) {
            return NONE;
        }
        findings.match(told, now);
        int holders = 0;
        for (int i = 0; i < told.judges; i++) {
            if (findings.waysWith(told.judges, judge, i) > 0) {
                holders |= 1 << i;
            }
        }
        return holders;
    }

    public int leans(int judge) {
        if (!isJudge(judge)) {
            return NONE;
        }
        int tens = 0;
        for (int i = 0; i < 10; i++) {
            if (isAsSaid(judge, 10 * i)) {
                tens |= 1 << i;
            }
        }
        return tens;
    }

    private boolean isAsSaid(int judge, int lean) {
        for (int i = 0; i < told.cases; i++) {
            if (now.before[i] == judge && now.said[i] != NONE) {
                int day = told.day[i];
                mind.see(lean, told.stiff[judge], told.grave[i], 0, told.moistOn(day), day);
                boolean guilty = mind.saysGuilty(told.laws, mind.thinksGuilty(told.laws));
                if (guilty != (now.said[i] == 1)) {
                    return false;
                }
            }
        }
        return true;
    }

    public int chance(int seed, int n, int out) {
        if (seed < 0 || n < 1 || n > MOST_DAYS || out < 0 || out > 99) {
            return NONE;
        }
        long last = seed;
        int times = 0;
        for (int i = 0; i < TIMES_DRAWN; i++) {
            beginTrial();
            for (int k = 0; k < n; k++) {
                last = last * 1103515245L + 12345L & 0x7fffffffL;
                term.damp = (int) (last / 65536L % 10L);
                term.passDay(trial);
            }
            if (outMore() >= out) {
                times++;
            }
        }
        return times;
    }

    public int tried(int what, int i, int n) {
        if (!isSpan(n) || (what == 2 ? !isJudge(i) : i != 0)) {
            return NONE;
        }
        beginTrial();
        switch (what) {
            case 0:
                trial.keptIn = 0;
                break;
            case 1:
                term.damp = 0;
                break;
            case 2:
                term.deaf = i;
                break;
            case 3:
                term.frank = true;
                break;
            case 4:
                term.beat = HARDEST_BEAT;
                break;
            default:
                return NONE;
        }
        term.pass(trial, n);
        return outMore();
    }

    public int undo() {
        if (deeds.many == 0) {
            return NONE;
        }
        deeds.takeBack(now);
        return deeds.many;
    }

    public int keep() {
        image.copyFrom(now);
        hasImage = true;
        return now.day;
    }

    public int back() {
        if (!hasImage) {
            return NONE;
        }
        now.copyFrom(image);
        deeds.clear();
        return now.day;
    }

    public int count(int what) {
        switch (what) {
            case 0:
                return told.judges;
            case 1:
                return told.cases;
            case 2:
                return told.clerks;
            case 3:
                return told.laws.knots;
            case 4:
                return now.day;
            case 5:
                return now.casesHeard();
            case 6:
                return now.guilty();
            case 7:
                return now.fated(IN_CUSHION);
            case 8:
                return now.fated(OUT);
            case 9:
                return now.fated(LOST);
            case 10:
                return findings.many;
            case 11:
                return findings.first();
            case 12:
                return deeds.many;
            default:
                return NONE;
        }
    }

    /** The laws of a text, each a run of knots in the order in which they are worked out. */
    private static final class Laws {
        int knots;
        final int[] row = new int[MOST_KNOTS];
        final int[] from = new int[LAWS];
        final int[] to = new int[LAWS];

        Laws() {
        }

        void clear() {
            knots = 0;
            for (int i = 0; i < LAWS; i++) {
                from[i] = 0;
                to[i] = 0;
            }
        }

        void copyFrom(Laws other) {
            knots = other.knots;
            System.arraycopy(other.row, 0, row, 0, MOST_KNOTS);
            System.arraycopy(other.from, 0, from, 0, LAWS);
            System.arraycopy(other.to, 0, to, 0, LAWS);
        }

        boolean isTold(int which) {
            return to[which] > from[which];
        }
    }

    /** What a text tells; it stays as it is while days go by. */
    private static final class Book {
        int judges;
        int cases;
        int clerks;
        int damps;
        int lines;
        int beat = BARE_BEAT;
        boolean beatTold;
        final int[] judgeName = new int[MOST_JUDGES];
        final int[] lean = new int[MOST_JUDGES];
        final int[] stiff = new int[MOST_JUDGES];
        final int[] caseName = new int[MOST_CASES];
        final int[] before = new int[MOST_CASES];
        final int[] day = new int[MOST_CASES];
        final int[] grave = new int[MOST_CASES];
        final int[] clerkName = new int[MOST_CLERKS];
        final int[] passes = new int[MOST_CLERKS];
        final int[] ears = new int[MOST_CLERKS];
        final int[] damp = new int[MOST_DAMPS];
        final Laws laws = new Laws();

        Book() {
        }

        void clear() {
            judges = 0;
            cases = 0;
            clerks = 0;
            damps = 0;
            lines = 0;
            beat = BARE_BEAT;
            beatTold = false;
            laws.clear();
        }

        void copyFrom(Book other) {
            judges = other.judges;
            cases = other.cases;
            clerks = other.clerks;
            damps = other.damps;
            lines = other.lines;
            beat = other.beat;
            beatTold = other.beatTold;
            System.arraycopy(other.judgeName, 0, judgeName, 0, MOST_JUDGES);
            System.arraycopy(other.lean, 0, lean, 0, MOST_JUDGES);
            System.arraycopy(other.stiff, 0, stiff, 0, MOST_JUDGES);
            System.arraycopy(other.caseName, 0, caseName, 0, MOST_CASES);
            System.arraycopy(other.before, 0, before, 0, MOST_CASES);
            System.arraycopy(other.day, 0, day, 0, MOST_CASES);
            System.arraycopy(other.grave, 0, grave, 0, MOST_CASES);
            System.arraycopy(other.clerkName, 0, clerkName, 0, MOST_CLERKS);
            System.arraycopy(other.passes, 0, passes, 0, MOST_CLERKS);
            System.arraycopy(other.ears, 0, ears, 0, MOST_CLERKS);
            System.arraycopy(other.damp, 0, damp, 0, MOST_DAMPS);
            laws.copyFrom(other.laws);
        }

        int moistOn(int date) {
            return damps > 0 ? damp[date % damps] : 0;
        }
    }

    /** Reads a text into a book, up to its first fault. */
    private static final class Reader {
        static final String WORDS =
                "judge cause clerk damp beat law think say fly or and not lean stiff grave plump moist sure day ";
        static final int MANY_WORDS = 19;
        static final int JUDGE = 0;
        static final int CAUSE = 1;
        static final int CLERK = 2;
        static final int DAMP = 3;
        static final int BEAT = 4;
        static final int LAW = 5;
        static final int FIRST_LAW = 6;
        static final int WORD_OR = 9;
        static final int WORD_AND = 10;
        static final int WORD_NOT = 11;
        static final int FIRST_NAME = 12;

        static final int END = 0;
        static final int WORD = 1;
        static final int OWN_NAME = 2;
        static final int NUMBER = 3;
        static final int SIGN = 4;
        static final int WRONG = 5;

        static final int CANNOT_STAND = 1;
        static final int TOO_MUCH = 2;
        static final int TOLD_ALREADY = 3;
        static final int NO_JUDGE = 4;

        static final int MOST_NUMBER = 9999;
        static final int COMPARING = 4;

        final byte[] bytes;
        final Book book;
        final int[] codes = new int[MANY_WORDS];
        final int[] held = new int[MOST_KNOTS + MOST_OPEN];
        int manyHeld;
        int open;
        int knotsMet;
        int length;
        int next;
        int place;
        int kind;
        int value;
        int fault;
        int faultPlace;

        Reader(byte[] bytes, Book book) {
            this.bytes = bytes;
            this.book = book;
            int word = 0;
            int letters = 0;
            for (int i = 0; i < WORDS.length() && word < MANY_WORDS; i++) {
                char sign = WORDS.charAt(i);
                if (sign == ' ') {
                    word++;
                    letters = 0;
                } else {
                    codes[word] |= codeOf(sign, letters);
                    letters++;
                }
            }
        }

        /** A letter's five bits at its place in a name; none behind the sixth one. */
        private static int codeOf(int sign, int at) {
            return at < MOST_LETTERS ? sign - 'a' + 1 << 5 * (MOST_LETTERS - 1 - at) : 0;
        }

        void read(int n) {
            begin(n);
            for (int i = 0; i < MOST_BYTES && fault == 0 && kind != END; i++) {
                switch (kind == WORD ? value : NONE) {
                    case JUDGE:
                        readJudge();
                        break;
                    case CAUSE:
                        readCase();
                        break;
                    case CLERK:
                        readClerk();
                        break;
                    case DAMP:
                        readDamp();
                        break;
                    case BEAT:
                        readBeat();
                        break;
                    case LAW:
                        readLaw();
                        break;
                    default:
                        refuse(CANNOT_STAND);
                }
                takeStop();
                book.lines++;
            }
        }

        private void begin(int n) {
            length = n;
            next = 0;
            fault = 0;
            faultPlace = NONE;
            knotsMet = 0;
            book.clear();
            step();
        }

        // The first fault stays: whatever is taken behind it leaves it alone.
        private void refuse(int why) {
            if (fault == 0) {
                fault = why;
                faultPlace = place;
            }
        }

        private void takeLineWord(boolean isFull, int why) {
            if (isFull) {
                refuse(why);
            }
            step();
        }

        private void readJudge() {
            int at = book.judges;
            takeLineWord(at >= MOST_JUDGES, TOO_MUCH);
            int name = takeNewName(book.judgeName, at);
            int lean = takeNumber(99);
            int stiff = takeNumber(9);
            if (fault == 0 && at < MOST_JUDGES) {
                book.judgeName[at] = name;
                book.lean[at] = lean;
                book.stiff[at] = stiff;
                book.judges++;
            }
        }

        private void readCase() {
            int at = book.cases;
            takeLineWord(at >= MOST_CASES, TOO_MUCH);
            int name = takeNewName(book.caseName, at);
            int before = takeJudge();
            int day = takeNumber(99);
            int grave = takeNumber(99);
            if (fault == 0 && at < MOST_CASES) {
                book.caseName[at] = name;
                book.before[at] = before;
                book.day[at] = day;
                book.grave[at] = grave;
                book.cases++;
            }
        }

        private void readClerk() {
            int at = book.clerks;
            takeLineWord(at >= MOST_CLERKS, TOO_MUCH);
            int name = takeNewName(book.clerkName, at);
            int passes = takeNumber(127);
            int ears = takeNumber(9);
            if (fault == 0 && at < MOST_CLERKS) {
                book.clerkName[at] = name;
                book.passes[at] = passes;
                book.ears[at] = ears;
                book.clerks++;
            }
        }

        private void readDamp() {
            int at = book.damps;
            takeLineWord(at >= MOST_DAMPS, TOO_MUCH);
            int damp = takeNumber(9);
            if (fault == 0 && at < MOST_DAMPS) {
                book.damp[at] = damp;
                book.damps++;
            }
        }

        private void readBeat() {
            takeLineWord(book.beatTold, TOLD_ALREADY);
            int beat = takeNumber(9);
            if (fault == 0) {
                book.beat = beat;
                book.beatTold = true;
            }
        }

        private void readLaw() {
            step();
            int which = value - FIRST_LAW;
            if (kind != WORD || which < 0 || which >= LAWS) {
                refuse(CANNOT_STAND);
                return;
            }
            if (book.laws.isTold(which)) {
                refuse(TOLD_ALREADY);
                return;
            }
            step();
            book.laws.from[which] = book.laws.knots;
            readExpression();
            book.laws.to[which] = book.laws.knots;
        }

        private int takeNewName(int[] names, int many) {
            int name = value;
            if (kind != OWN_NAME) {
                refuse(CANNOT_STAND);
            } else if (placeOf(name, names, many) != NONE) {
                refuse(TOLD_ALREADY);
            }
            step();
            return name;
        }

        private int takeJudge() {
            int judge = placeOf(value, book.judgeName, book.judges);
            if (kind != OWN_NAME) {
                refuse(CANNOT_STAND);
            } else if (judge == NONE) {
                refuse(NO_JUDGE);
            }
            step();
            return judge;
        }

        private int takeNumber(int most) {
            int number = value;
            if (kind != NUMBER) {
                refuse(CANNOT_STAND);
            } else if (number > most) {
                refuse(TOO_MUCH);
            }
            step();
            return number;
        }

        private void takeStop() {
            if (kind != SIGN || value != STOP) {
                refuse(CANNOT_STAND);
            }
            step();
        }

        /** Puts knots behind their sides: a sign is held back until its last side is there. */
        private void readExpression() {
            manyHeld = 0;
            open = 0;
            boolean sideMustCome = true;
            for (int i = 0; i < MOST_BYTES && fault == 0; i++) {
                if (!sideMustCome && open == 0 && kind == SIGN && value == STOP) {
                    break;
                }
                sideMustCome = sideMustCome ? meetSide() : meetJoint();
                step();
            }
            release(1);
        }

        /** Whether a side must still come behind what stands here. */
        private boolean meetSide() {
            if (kind == NUMBER) {
                meetKnot(value > MOST_NUMBER);
                emit(value);
                return false;
            }
            if (kind == WORD && value >= FIRST_NAME) {
                meetKnot(false);
                emit(FIRST_NAME - 1 - value);
                return false;
            }
            if (kind == WORD && value == WORD_NOT && strengthHeld() <= strength(NOT)) {
                meetKnot(false);
                hold(NOT);
                return true;
            }
            if (kind != SIGN || value != OPEN) {
                refuse(CANNOT_STAND);
            } else if (open >= MOST_OPEN) {
                refuse(TOO_MUCH);
            }
            open++;
            hold(OPEN);
            return true;
        }

        /** Behind a side: whether another one must come behind what stands here. */
        private boolean meetJoint() {
            if (kind == SIGN && value == CLOSE && open > 0) {
                release(1);
                manyHeld--;
                open--;
                return false;
            }
            int sign = jointHere();
            int strength = strength(sign);
            if (strength == 0) {
                refuse(CANNOT_STAND);
                return false;
            }
            boolean compares = strength == COMPARING;
            release(compares ? strength + 1 : strength);
            if (compares && strengthHeld() == strength) {
                refuse(CANNOT_STAND);
            }
            meetKnot(false);
            hold(sign);
            return true;
        }

        private int jointHere() {
            if (kind == SIGN) {
                return value;
            }
            if (kind == WORD && value == WORD_OR) {
                return OR;
            }
            return kind == WORD && value == WORD_AND ? AND : OPEN;
        }

        /** How tight a sign binds; 0 of what joins no sides. */
        private static int strength(int sign) {
            switch (sign) {
                case TIMES:
                case BY:
                    return 6;
                case PLUS:
                case MINUS:
                    return 5;
                case NOT:
                    return 3;
                case AND:
                    return 2;
                case OR:
                    return 1;
                case OPEN:
                case CLOSE:
                case STOP:
                    return 0;
                default:
                    return COMPARING;
            }
        }

        private int strengthHeld() {
            return manyHeld > 0 ? strength(held[manyHeld - 1]) : 0;
        }

        private void meetKnot(boolean isTooMuch) {
            if (isTooMuch || knotsMet >= MOST_KNOTS) {
                refuse(TOO_MUCH);
            }
            knotsMet++;
        }

        private void hold(int sign) {
            if (fault == 0 && manyHeld < held.length) {
                held[manyHeld] = sign;
                manyHeld++;
            }
        }

        private void emit(int knot) {
            if (fault == 0 && book.laws.knots < MOST_KNOTS) {
                book.laws.row[book.laws.knots] = knot;
                book.laws.knots++;
            }
        }

        private void release(int least) {
            for (int i = manyHeld - 1; i >= 0 && strength(held[i]) >= least; i--) {
                emit(held[i]);
                manyHeld = i;
            }
        }

        /** Goes on to the next token. */
        private void step() {
            while (next < length && isBlank(bytes[next])) {
                next++;
            }
            place = next;
            value = 0;
            if (next >= length) {
                kind = END;
            } else if (isLetter(bytes[next])) {
                scanWord();
            } else if (isDigit(bytes[next])) {
                scanNumber();
            } else {
                scanSign();
            }
        }

        private static boolean isBlank(int sign) {
            return sign == 10 || sign == 32;
        }

        private static boolean isLetter(int sign) {
            return sign >= 'a' && sign <= 'z';
        }

        private static boolean isDigit(int sign) {
            return sign >= '0' && sign <= '9';
        }

        private void scanWord() {
            int code = 0;
            while (next < length && isLetter(bytes[next])) {
                code |= codeOf(bytes[next], next - place);
                next++;
            }
            int word = placeOf(code, codes, MANY_WORDS);
            if (next - place > MOST_LETTERS) {
                kind = WRONG;
            } else {
                kind = word == NONE ? OWN_NAME : WORD;
                value = word == NONE ? code : word;
            }
        }

        private void scanNumber() {
            kind = NUMBER;
            while (next < length && isDigit(bytes[next])) {
                // A number beyond all bounds needs no more digits, and so never overflows.
                if (value <= MOST_NUMBER) {
                    value = 10 * value + bytes[next] - '0';
                }
                next++;
            }
        }

        private void scanSign() {
            int sign = bytes[next];
            next++;
            int behind = next < length ? bytes[next] : 0;
            kind = SIGN;
            value = signOf(sign);
            if (sign == '<' && (behind == '=' || behind == '>')) {
                value = behind == '=' ? AT_MOST : OTHER;
                next++;
            } else if (sign == '>' && behind == '=') {
                value = AT_LEAST;
                next++;
            } else if (value == 0) {
                kind = WRONG;
            }
        }

        private static int signOf(int sign) {
            switch (sign) {
                case '<':
                    return LESS;
                case '=':
                    return SAME;
                case '>':
                    return MORE;
                case '+':
                    return PLUS;
                case '-':
                    return MINUS;
                case '*':
                    return TIMES;
                case '/':
                    return BY;
                case '(':
                    return OPEN;
                case ')':
                    return CLOSE;
                case ';':
                    return STOP;
                default:
                    return 0;
            }
        }
    }

    /** What is so on a day: what cases came to, where feathers lie, who knows what. */
    private static final class World {
        int day;
        int keptIn;
        final int[] before = new int[MOST_CASES];
        final int[] thought = new int[MOST_CASES];
        final int[] said = new int[MOST_CASES];
        final int[] fate = new int[MOST_CASES];
        final int[] holds = new int[MOST_JUDGES];
        final int[] size = new int[MOST_JUDGES];
        final int[] feathers = new int[MOST_JUDGES * MOST_FEATHERS];
        final int[] heard = new int[MOST_CLERKS];

        World() {
        }

        void begin(Book book) {
            day = 0;
            keptIn = 0;
            for (int i = 0; i < MOST_CASES; i++) {
                before[i] = book.before[i];
                thought[i] = NONE;
                said[i] = NONE;
                fate[i] = NO_FEATHER;
            }
            for (int i = 0; i < MOST_JUDGES; i++) {
                holds[i] = i;
                size[i] = 0;
            }
            for (int i = 0; i < MOST_CLERKS; i++) {
                heard[i] = 0;
            }
        }

        void copyFrom(World other) {
            day = other.day;
            keptIn = other.keptIn;
            System.arraycopy(other.before, 0, before, 0, MOST_CASES);
            System.arraycopy(other.thought, 0, thought, 0, MOST_CASES);
            System.arraycopy(other.said, 0, said, 0, MOST_CASES);
            System.arraycopy(other.fate, 0, fate, 0, MOST_CASES);
            System.arraycopy(other.holds, 0, holds, 0, MOST_JUDGES);
            System.arraycopy(other.size, 0, size, 0, MOST_JUDGES);
            System.arraycopy(other.feathers, 0, feathers, 0, MOST_JUDGES * MOST_FEATHERS);
            System.arraycopy(other.heard, 0, heard, 0, MOST_CLERKS);
        }

        void swap(int one, int other) {
            int cushion = holds[one];
            holds[one] = holds[other];
            holds[other] = cushion;
        }

        boolean isKeptIn(int cushion) {
            return (keptIn >> cushion & 1) != 0;
        }

        void setKeptIn(int cushion, boolean is) {
            int bit = 1 << cushion;
            keptIn = is ? keptIn | bit : keptIn & ~bit;
        }

        void lay(int cushion, int cause) {
            int lowest = cushion * MOST_FEATHERS;
            if (size[cushion] >= MOST_FEATHERS) {
                fate[feathers[lowest]] = LOST;
                for (int i = 1; i < MOST_FEATHERS; i++) {
                    feathers[lowest + i - 1] = feathers[lowest + i];
                }
                size[cushion] = MOST_FEATHERS - 1;
            }
            feathers[lowest + size[cushion]] = cause;
            size[cushion]++;
            fate[cause] = IN_CUSHION;
        }

        // The row itself stays as it is, so that refill() finds the feathers there again.
        void empty(int cushion) {
            setFate(cushion, LOST);
            size[cushion] = 0;
        }

        void refill(int cushion, int feathersLost) {
            size[cushion] = feathersLost;
            setFate(cushion, IN_CUSHION);
        }

        private void setFate(int cushion, int now) {
            for (int i = 0; i < size[cushion] && i < MOST_FEATHERS; i++) {
                fate[feathers[cushion * MOST_FEATHERS + i]] = now;
            }
        }

        boolean hasFeather(int cushion, int cause) {
            for (int i = 0; i < size[cushion] && i < MOST_FEATHERS; i++) {
                if (feathers[cushion * MOST_FEATHERS + i] == cause) {
                    return true;
                }
            }
            return false;
        }

        int casesHeard() {
            int cases = 0;
            for (int i = 0; i < MOST_CASES; i++) {
                if (said[i] != NONE) {
                    cases++;
                }
            }
            return cases;
        }

        int guilty() {
            int cases = 0;
            for (int i = 0; i < MOST_CASES; i++) {
                if (said[i] == 1) {
                    cases++;
                }
            }
            return cases;
        }

        int fated(int which) {
            int cases = 0;
            for (int i = 0; i < MOST_CASES; i++) {
                if (fate[i] == which) {
                    cases++;
                }
            }
            return cases;
        }

        int knownToAny() {
            int cases = 0;
            for (int i = 0; i < MOST_CLERKS; i++) {
                cases |= heard[i];
            }
            return cases;
        }

        int knownInAll() {
            int pairs = 0;
            for (int i = 0; i < MOST_CLERKS; i++) {
                pairs += Integer.bitCount(heard[i]);
            }
            return pairs;
        }
    }

    /** Works out laws by what a judge has before its eyes. */
    private static final class Mind {
        static final int NAMES = 7;
        static final long FARTHEST = 1000000000000L;

        final int[] seen = new int[NAMES];
        final long[] stack = new long[MOST_KNOTS];
        long value;
        private long joined;

        Mind() {
        }

        void see(int lean, int stiff, int grave, int plump, int moist, int day) {
            seen[0] = lean;
            seen[1] = stiff;
            seen[2] = grave;
            seen[3] = plump;
            seen[4] = moist;
            seen[5] = Math.abs(grave - lean);
            seen[6] = day;
        }

        // Without a case there is nothing to be far from LEAN.
        void seeNoCase() {
            seen[5] = 0;
        }

        boolean thinksGuilty(Laws laws) {
            return works(laws, THINK) ? value != 0 : seen[2] > seen[0];
        }

        boolean saysGuilty(Laws laws, boolean thought) {
            if (works(laws, SAY)) {
                return value != 0;
            }
            return thought || seen[1] >= STIFF_ENOUGH && seen[5] < NEAR;
        }

        int feathersOut(Laws laws, int beat) {
            long out = works(laws, FLY) ? value : beat + seen[4] / 3;
            return (int) Math.max(0L, Math.min(out, MOST_FEATHERS));
        }

        /** The law's value is there then; false: an error, or the law isn't told. */
        boolean works(Laws laws, int which) {
            int top = 0;
            int end = laws.to[which];
            for (int i = laws.from[which]; i < end && i < MOST_KNOTS; i++) {
                int knot = laws.row[i];
                if (knot >= LAST_NAME) {
                    stack[top] = knot >= 0 ? knot : seen[-1 - knot];
                    top++;
                } else if (knot == NOT) {
                    if (top < 1) {
                        return false;
                    }
                    stack[top - 1] = stack[top - 1] == 0 ? 1 : 0;
                } else {
                    if (top < 2 || !joins(knot, stack[top - 2], stack[top - 1])) {
                        return false;
                    }
                    top--;
                    stack[top - 1] = joined;
                }
            }
            value = stack[0];
            return top == 1;
        }

        private static boolean isInReach(long value) {
            return value <= FARTHEST && value >= -FARTHEST;
        }

        private boolean joins(int sign, long one, long other) {
            switch (sign) {
                case PLUS:
                    joined = one + other;
                    return isInReach(joined);
                case MINUS:
                    joined = one - other;
                    return isInReach(joined);
                case TIMES:
                    // Looked at by division first: the product may be beyond a long.
                    if (other != 0 && Math.abs(one) > FARTHEST / Math.abs(other)) {
                        return false;
                    }
                    joined = one * other;
                    return true;
                case BY:
                    if (other == 0) {
                        return false;
                    }
                    joined = one / other;
                    return true;
                default:
                    joined = isSo(sign, one, other) ? 1 : 0;
                    return true;
            }
        }

        private static boolean isSo(int sign, long one, long other) {
            switch (sign) {
                case OR:
                    return one != 0 || other != 0;
                case AND:
                    return one != 0 && other != 0;
                case LESS:
                    return one < other;
                case AT_MOST:
                    return one <= other;
                case SAME:
                    return one == other;
                case OTHER:
                    return one != other;
                case AT_LEAST:
                    return one >= other;
                default:
                    return one > other;
            }
        }
    }

    /** Lets days go by, as told or otherwise. */
    private static final class Term {
        final Book book;
        final Mind mind;
        int damp;
        int beat;
        int deaf;
        boolean frank;

        Term(Book book, Mind mind) {
            this.book = book;
            this.mind = mind;
        }

        void asTold() {
            damp = NONE;
            beat = book.beat;
            deaf = NONE;
            frank = false;
        }

        void pass(World world, int n) {
            for (int i = 0; i < n; i++) {
                passDay(world);
            }
        }

        void passDay(World world) {
            int moist = damp == NONE ? book.moistOn(world.day) : damp;
            for (int i = 0; i < book.cases; i++) {
                if (book.day[i] == world.day && world.before[i] != deaf) {
                    hear(world, i, moist);
                }
            }
            if (world.day % WEEK == 0) {
                for (int i = 0; i < book.judges; i++) {
                    if (!world.isKeptIn(world.holds[i])) {
                        air(world, i, moist);
                    }
                }
            }
            world.day++;
        }

        void seeCase(World world, int cause, int judge, int moist) {
            int plump = world.size[world.holds[judge]];
            mind.see(book.lean[judge], book.stiff[judge], book.grave[cause], plump, moist, world.day);
        }

        void seeCushion(World world, int judge, int moist) {
            int plump = world.size[world.holds[judge]];
            mind.see(book.lean[judge], book.stiff[judge], 0, plump, moist, world.day);
            mind.seeNoCase();
        }

        private void hear(World world, int cause, int moist) {
            int judge = world.before[cause];
            seeCase(world, cause, judge, moist);
            boolean thought = mind.thinksGuilty(book.laws);
            boolean said = frank ? thought : mind.saysGuilty(book.laws, thought);
            world.thought[cause] = thought ? 1 : 0;
            world.said[cause] = said ? 1 : 0;
            if (said != thought) {
                world.lay(world.holds[judge], cause);
            }
        }

        private void air(World world, int judge, int moist) {
            int cushion = world.holds[judge];
            seeCushion(world, judge, moist);
            int left = Math.max(0, world.size[cushion] - mind.feathersOut(book.laws, beat));
            for (int i = world.size[cushion] - 1; i >= left; i--) {
                int cause = world.feathers[cushion * MOST_FEATHERS + i];
                world.fate[cause] = OUT;
                tellClerks(world, cause, i);
            }
            world.size[cushion] = left;
        }

        private void tellClerks(World world, int cause, int below) {
            int today = 1 << world.day % WEEK;
            for (int i = 0; i < book.clerks; i++) {
                if ((book.passes[i] & today) != 0 && book.ears[i] >= below) {
                    world.heard[i] |= 1 << cause;
                }
            }
        }
    }

    /** What was done by call since the last day went by, the latest twenty. */
    private static final class Deeds {
        static final int EXCHANGED = 0;
        static final int KEPT = 1;
        static final int RESTUFFED = 2;
        static final int GIVEN = 3;

        final int[] kind = new int[MOST_DEEDS];
        final int[] one = new int[MOST_DEEDS];
        final int[] other = new int[MOST_DEEDS];
        int start;
        int many;

        Deeds() {
        }

        void clear() {
            start = 0;
            many = 0;
        }

        void note(int what, int first, int second) {
            int at = (start + many) % MOST_DEEDS;
            kind[at] = what;
            one[at] = first;
            other[at] = second;
            if (many < MOST_DEEDS) {
                many++;
            } else {
                start = (start + 1) % MOST_DEEDS;
            }
        }

        void takeBack(World world) {
            if (many == 0) {
                return;
            }
            many--;
            int at = (start + many) % MOST_DEEDS;
            switch (kind[at]) {
                case EXCHANGED:
                    world.swap(one[at], other[at]);
                    break;
                case KEPT:
                    world.setKeptIn(one[at], !world.isKeptIn(one[at]));
                    break;
                case RESTUFFED:
                    world.refill(one[at], other[at]);
                    break;
                default:
                    world.before[one[at]] = other[at];
            }
        }
    }

    /** Feathers found or missed, strikes, and whose cushion may be whose by them. */
    private static final class Findings {
        static final int STRIKE = 2;

        // A case and a judge, or what is struck; how: 0 missed, 1 found, or a strike.
        final int[] what = new int[MOST_FOUND];
        final int[] judge = new int[MOST_FOUND];
        final int[] how = new int[MOST_FOUND];
        final boolean[] struck = new boolean[MOST_FOUND];
        final int[] fitting = new int[MOST_JUDGES];
        final int[] deals = new int[1 << MOST_JUDGES];
        int many;
        int knownBy = NONE;

        Findings() {
        }

        void clear() {
            many = 0;
            knownBy = NONE;
        }

        int add(int newWhat, int newJudge, int newHow) {
            if (many >= MOST_FOUND) {
                return NONE;
            }
            what[many] = newWhat;
            judge[many] = newJudge;
            how[many] = newHow;
            many++;
            return many - 1;
        }

        int first() {
            return knownBy == NONE ? many : knownBy;
        }

        /** For each judge, whose cushions have what was found in its own, and nothing missed there. */
        void match(Book book, World world) {
            settleStrikes();
            for (int i = 0; i < book.judges; i++) {
                fitting[i] = 0;
                for (int holder = 0; holder < book.judges; holder++) {
                    if (fits(world, i, world.holds[holder])) {
                        fitting[i] |= 1 << holder;
                    }
                }
            }
        }

        // A strike comes behind what it strikes, so from the last one on each is settled when it is asked.
        private void settleStrikes() {
            for (int i = 0; i < MOST_FOUND; i++) {
                struck[i] = false;
            }
            for (int i = first() - 1; i >= 0; i--) {
                if (how[i] == STRIKE && !struck[i]) {
                    struck[what[i]] = true;
                }
            }
        }

        private boolean fits(World world, int owner, int cushion) {
            int end = first();
            for (int i = 0; i < end; i++) {
                if (how[i] != STRIKE && !struck[i] && judge[i] == owner
                        && world.hasFeather(cushion, what[i]) != (how[i] == 1)) {
                    return false;
                }
            }
            return true;
        }

        /** Ways to deal out the cushions, if the judge bound (NONE: no one) owns what the holder has. */
        int waysWith(int judges, int bound, int holder) {
            int all = (1 << judges) - 1;
            for (int i = 0; i <= all; i++) {
                deals[i] = 0;
            }
            deals[0] = 1;
            for (int dealt = 0; dealt < all; dealt++) {
                int next = Integer.bitCount(dealt);
                int free = fitting[next] & ~dealt & (next == bound ? 1 << holder : all);
                for (int i = 0; i < judges; i++) {
                    if ((free >> i & 1) != 0) {
                        deals[dealt | 1 << i] += deals[dealt];
                    }
                }
            }
            return deals[all];
        }
    }

    /** Gives the first cases to come to judges so that they are nearest to them in sum. */
    private static final class Dealing {
        // What a judge has is a digit of base 3 (none, one or two cases).
        static final int[] POWERS = {1, 3, 9, 27, 81, 243};

        final int[] grave = new int[MOST_DEALT];
        final int[] least = new int[243];
        int cases;

        Dealing() {
        }

        void gather(Book book, World world) {
            cases = 0;
            for (int i = 0; i < book.cases && cases < MOST_DEALT; i++) {
                if (world.said[i] == NONE) {
                    grave[cases] = book.grave[i];
                    cases++;
                }
            }
        }

        /** The least sum of what is still to be dealt, for each way in which judges are laden. */
        void weigh(Book book) {
            for (int load = POWERS[book.judges] - 1; load >= 0; load--) {
                int next = dealtIn(load, book.judges);
                least[load] = 0;
                if (next < cases) {
                    least[load] = Integer.MAX_VALUE;
                    for (int i = 0; i < book.judges; i++) {
                        if (hasRoom(load, i)) {
                            least[load] = Math.min(least[load], sumWith(book, load, next, i));
                        }
                    }
                }
            }
        }

        int judgeOf(Book book, int which) {
            int load = 0;
            int chosen = NONE;
            for (int next = 0; next <= which; next++) {
                chosen = NONE;
                for (int i = 0; i < book.judges && chosen == NONE; i++) {
                    if (hasRoom(load, i) && sumWith(book, load, next, i) == least[load]) {
                        chosen = i;
                    }
                }
                load += chosen == NONE ? 0 : POWERS[chosen];
            }
            return chosen;
        }

        private int sumWith(Book book, int load, int next, int judge) {
            return Math.abs(grave[next] - book.lean[judge]) + least[load + POWERS[judge]];
        }

        private static boolean hasRoom(int load, int judge) {
            return load / POWERS[judge] % 3 < MOST_TO_ONE;
        }

        private static int dealtIn(int load, int judges) {
            int dealt = 0;
            for (int i = 0; i < judges; i++) {
                dealt += load / POWERS[i] % 3;
            }
            return dealt;
        }
    }
}
