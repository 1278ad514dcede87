import java.util.ArrayList;
import java.util.Arrays;
import java.util.HashMap;
import java.util.HashSet;
import java.util.List;
import java.util.Map;
import java.util.NoSuchElementException;
import java.util.Set;
import java.util.TreeMap;

/** The document once more, slow and plain, for random runs to be held against: trees, copies and all ways tried. */
final class PlainCourt {
    private static final long ERROR = Long.MIN_VALUE;
    private static final Set<String> WORDS = new HashSet<>(Arrays.asList(("judge cause clerk damp beat law think say "
            + "fly or and not lean stiff grave plump moist sure day").split(" ")));
    private static final Set<String> NAMES =
            new HashSet<>(Arrays.asList("lean stiff grave plump moist sure day".split(" ")));

    interface Tree {
        long value(Map<String, Integer> names);
    }

    static final class Fault extends RuntimeException {
        final int why;
        final int place;

        Fault(int why, int place) {
            this.why = why;
            this.place = place;
        }
    }

    static final class Judge {
        String name;
        int lean;
        int stiff;
    }

    static final class Case {
        String name;
        int judge;
        int day;
        int grave;
    }

    static final class Clerk {
        String name;
        int days;
        int ears;
    }

    static final class Told {
        final List<Judge> judges = new ArrayList<>();
        final List<Case> cases = new ArrayList<>();
        final List<Clerk> clerks = new ArrayList<>();
        final List<Integer> damps = new ArrayList<>();
        Integer beat;
        final Map<String, Tree> laws = new HashMap<>();
        int knots;
        int lines;

        int dampOf(int day) {
            return damps.isEmpty() ? 0 : damps.get(day % damps.size());
        }
    }

    static final class Parser {
        final String text;
        int at;
        String token;
        int place;
        int open;
        final Told told = new Told();

        Parser(String text) {
            this.text = text;
            next();
        }

        void next() {
            while (at < text.length() && (text.charAt(at) == ' ' || text.charAt(at) == '\n')) {
                at++;
            }
            place = at;
            if (at == text.length()) {
                token = "";
                return;
            }
            String rest = text.substring(at);
            token = rest.replaceFirst("(?s)^([a-z]+|[0-9]+|<=|<>|>=|[-+*/()<>=;]|.).*$", "$1");
            at += token.length();
        }

        Fault wrong() {
            return new Fault(1, place);
        }

        void want(String what) {
            if (!token.equals(what)) {
                throw wrong();
            }
            next();
        }

        String name() {
            if (!token.matches("[a-z]{1,6}") || WORDS.contains(token)) {
                throw wrong();
            }
            return token;
        }

        int number(int most) {
            if (!token.matches("[0-9]+")) {
                throw wrong();
            }
            if (new java.math.BigInteger(token).compareTo(java.math.BigInteger.valueOf(most)) > 0) {
                throw new Fault(2, place);
            }
            int number = Integer.parseInt(token.replaceFirst("^0+(?=.)", ""));
            next();
            return number;
        }

        Told all() {
            while (!token.isEmpty()) {
                line();
                want(";");
                told.lines++;
            }
            return told;
        }

        void full(boolean is) {
            if (is) {
                throw new Fault(2, place);
            }
            next();
        }

        void line() {
            switch (token) {
                case "judge": {
                    full(told.judges.size() == 5);
                    Judge judge = new Judge();
                    judge.name = name();
                    if (told.judges.stream().anyMatch(x -> x.name.equals(judge.name))) {
                        throw new Fault(3, place);
                    }
                    next();
                    judge.lean = number(99);
                    judge.stiff = number(9);
                    told.judges.add(judge);
                    return;
                }
                case "cause": {
                    full(told.cases.size() == 10);
                    Case cause = new Case();
                    cause.name = name();
                    if (told.cases.stream().anyMatch(x -> x.name.equals(cause.name))) {
                        throw new Fault(3, place);
                    }
                    next();
                    String judge = name();
                    cause.judge = -1;
                    for (int i = 0; i < told.judges.size(); i++) {
                        if (told.judges.get(i).name.equals(judge)) {
                            cause.judge = i;
                        }
                    }
                    if (cause.judge < 0) {
                        throw new Fault(4, place);
                    }
                    next();
                    cause.day = number(99);
                    cause.grave = number(99);
                    told.cases.add(cause);
                    return;
                }
                case "clerk": {
                    full(told.clerks.size() == 5);
                    Clerk clerk = new Clerk();
                    clerk.name = name();
                    if (told.clerks.stream().anyMatch(x -> x.name.equals(clerk.name))) {
                        throw new Fault(3, place);
                    }
                    next();
                    clerk.days = number(127);
                    clerk.ears = number(9);
                    told.clerks.add(clerk);
                    return;
                }
                case "damp":
                    full(told.damps.size() == 8);
                    told.damps.add(number(9));
                    return;
                case "beat":
                    if (told.beat != null) {
                        throw new Fault(3, place);
                    }
                    next();
                    told.beat = number(9);
                    return;
                case "law": {
                    next();
                    String which = token;
                    if (!which.matches("think|say|fly")) {
                        throw wrong();
                    }
                    if (told.laws.containsKey(which)) {
                        throw new Fault(3, place);
                    }
                    next();
                    told.laws.put(which, or());
                    return;
                }
                default:
                    throw wrong();
            }
        }

        String knot() {
            if (told.knots == 64) {
                throw new Fault(2, place);
            }
            told.knots++;
            String knot = token;
            next();
            return knot;
        }

        Tree or() {
            Tree tree = and();
            while (token.equals("or")) {
                tree = join(knot(), tree, and());
            }
            return tree;
        }

        Tree and() {
            Tree tree = not();
            while (token.equals("and")) {
                tree = join(knot(), tree, not());
            }
            return tree;
        }

        Tree not() {
            if (token.equals("not")) {
                knot();
                Tree side = not();
                return names -> {
                    long value = side.value(names);
                    return value == ERROR ? ERROR : value == 0 ? 1 : 0;
                };
            }
            Tree tree = sum();
            if (token.matches("<|<=|=|<>|>=|>")) {
                tree = join(knot(), tree, sum());
            }
            return tree;
        }

        Tree sum() {
            Tree tree = product();
            while (token.equals("+") || token.equals("-")) {
                tree = join(knot(), tree, product());
            }
            return tree;
        }

        Tree product() {
            Tree tree = part();
            while (token.equals("*") || token.equals("/")) {
                tree = join(knot(), tree, part());
            }
            return tree;
        }

        Tree part() {
            if (token.equals("(")) {
                if (open == 8) {
                    throw new Fault(2, place);
                }
                open++;
                next();
                Tree tree = or();
                want(")");
                open--;
                return tree;
            }
            if (token.matches("[0-9]+")) {
                if (told.knots == 64) {
                    throw new Fault(2, place);
                }
                told.knots++;
                int number = number(9999);
                return names -> number;
            }
            if (NAMES.contains(token)) {
                String name = knot();
                return names -> names.get(name);
            }
            throw wrong();
        }

        static Tree join(String sign, Tree one, Tree other) {
            return names -> {
                long a = one.value(names);
                long b = other.value(names);
                if (a == ERROR || b == ERROR) {
                    return ERROR;
                }
                return joined(sign, a, b);
            };
        }

        static long joined(String sign, long a, long b) {
            java.math.BigInteger x = java.math.BigInteger.valueOf(a);
            java.math.BigInteger y = java.math.BigInteger.valueOf(b);
            switch (sign) {
                case "or":
                    return a != 0 || b != 0 ? 1 : 0;
                case "and":
                    return a != 0 && b != 0 ? 1 : 0;
                case "<":
                    return a < b ? 1 : 0;
                case "<=":
                    return a <= b ? 1 : 0;
                case "=":
                    return a == b ? 1 : 0;
                case "<>":
                    return a != b ? 1 : 0;
                case ">=":
                    return a >= b ? 1 : 0;
                case ">":
                    return a > b ? 1 : 0;
                case "+":
                    return inReach(x.add(y));
                case "-":
                    return inReach(x.subtract(y));
                case "*":
                    return inReach(x.multiply(y));
                default:
                    return b == 0 ? ERROR : a / b;
            }
        }

        static long inReach(java.math.BigInteger value) {
            return value.abs().compareTo(java.math.BigInteger.TEN.pow(12)) > 0 ? ERROR : value.longValue();
        }
    }

    /** Feathers by cushion, from the lowest one up. */
    static final class State {
        int day;
        int[] judgeOf = new int[10];
        Map<Integer, Boolean> thought = new TreeMap<>();
        Map<Integer, Boolean> said = new TreeMap<>();
        Set<Integer> out = new HashSet<>();
        Set<Integer> lost = new HashSet<>();
        int[] cushionOf = {0, 1, 2, 3, 4};
        Set<Integer> keptIn = new HashSet<>();
        List<List<Integer>> cushions = new ArrayList<>();
        List<Set<Integer>> heard = new ArrayList<>();

        State() {
            for (int i = 0; i < 5; i++) {
                cushions.add(new ArrayList<>());
                heard.add(new HashSet<>());
            }
        }

        State copy() {
            State copy = new State();
            copy.day = day;
            copy.judgeOf = judgeOf.clone();
            copy.thought.putAll(thought);
            copy.said.putAll(said);
            copy.out.addAll(out);
            copy.lost.addAll(lost);
            copy.cushionOf = cushionOf.clone();
            copy.keptIn.addAll(keptIn);
            for (int i = 0; i < 5; i++) {
                copy.cushions.get(i).addAll(cushions.get(i));
                copy.heard.get(i).addAll(heard.get(i));
            }
            return copy;
        }

        long pairs() {
            return heard.stream().mapToInt(Set::size).sum();
        }

        Set<Integer> knownToAny() {
            Set<Integer> all = new HashSet<>();
            heard.forEach(all::addAll);
            return all;
        }
    }

    /** What is otherwise than told in a trial. */
    static class Ways {
        int damp(Told told, int day) {
            return told.dampOf(day);
        }

        int beat(Told told) {
            return told.beat == null ? 1 : told.beat;
        }

        boolean hears(int judge) {
            return true;
        }

        boolean frank() {
            return false;
        }

        boolean airs(State state, int cushion) {
            return !state.keptIn.contains(cushion);
        }
    }

    static final class Found {
        int strikes = -1;
        int cause;
        int judge;
        boolean is;
    }

    private final List<Integer> tape = new ArrayList<>();
    private Told told = new Told();
    private int fault;
    private int faultPlace = -1;
    private State now = new State();
    private State image;
    private final List<State> undo = new ArrayList<>();
    private final List<Found> found = new ArrayList<>();
    private int knownBy = -1;

    int feed(int... numbers) {
        if (tape.size() + 20 > 700) {
            return -1;
        }
        for (int number : numbers) {
            for (byte x : java.nio.ByteBuffer.allocate(4).putInt(number).array()) {
                tape.add(x & 255);
            }
        }
        return tape.size();
    }

    int text(int n) {
        if (n < 0 || n > tape.size()) {
            return -2;
        }
        StringBuilder text = new StringBuilder();
        for (int i = 0; i < n; i++) {
            text.append((char) (int) tape.get(i));
        }
        tape.clear();
        try {
            told = new Parser(text.toString()).all();
        } catch (Fault x) {
            fault = x.why;
            faultPlace = x.place;
            return -1;
        }
        fault = 0;
        faultPlace = -1;
        now = new State();
        for (int i = 0; i < told.cases.size(); i++) {
            now.judgeOf[i] = told.cases.get(i).judge;
        }
        image = null;
        undo.clear();
        found.clear();
        knownBy = -1;
        return told.lines;
    }

    int fault(int what) {
        return what == 0 ? fault : what == 1 ? faultPlace : -1;
    }

    static int letters(String name) {
        int letters = 0;
        for (int i = 0; i < 6; i++) {
            letters = letters * 32 + (i < name.length() ? name.charAt(i) - 96 : 0);
        }
        return letters;
    }

    int named(int what, int letters) {
        List<String> names = new ArrayList<>();
        if (what == 0) {
            told.judges.forEach(x -> names.add(x.name));
        } else if (what == 1) {
            told.cases.forEach(x -> names.add(x.name));
        } else if (what == 2) {
            told.clerks.forEach(x -> names.add(x.name));
        }
        for (int i = 0; i < names.size(); i++) {
            if (letters(names.get(i)) == letters) {
                return i;
            }
        }
        return -1;
    }

    private boolean isJudge(int judge) {
        return judge >= 0 && judge < told.judges.size();
    }

    private boolean isCase(int cause) {
        return cause >= 0 && cause < told.cases.size();
    }

    private boolean isClerk(int clerk) {
        return clerk >= 0 && clerk < told.clerks.size();
    }

    private static int verdict(Map<Integer, Boolean> verdicts, int cause) {
        return !verdicts.containsKey(cause) ? -1 : verdicts.get(cause) ? 1 : 0;
    }

    int cause(int cause, int what) {
        if (!isCase(cause)) {
            throw new IndexOutOfBoundsException();
        }
        Case x = told.cases.get(cause);
        int fate = now.out.contains(cause) ? 2 : now.lost.contains(cause) ? 3
                : now.cushions.stream().anyMatch(c -> c.contains(cause)) ? 1 : 0;
        int[] answers =
                {now.judgeOf[cause], x.day, x.grave, verdict(now.thought, cause), verdict(now.said, cause), fate};
        if (what < 0 || what > 5) {
            throw new NoSuchElementException();
        }
        return answers[what];
    }

    private List<Integer> cushionOf(int judge) {
        return now.cushions.get(now.cushionOf[judge]);
    }

    private long heardBy(int judge) {
        return now.said.keySet().stream().filter(x -> now.judgeOf[x] == judge).count();
    }

    int judge(int judge, int what) {
        if (!isJudge(judge) || what < 0 || what > 5) {
            return -1;
        }
        Judge x = told.judges.get(judge);
        int cushion = now.cushionOf[judge];
        return new int[] {x.lean, x.stiff, cushion, now.cushions.get(cushion).size(),
            now.keptIn.contains(cushion) ? 1 : 0, (int) heardBy(judge)}[what];
    }

    int feather(int judge, int k) {
        if (!isJudge(judge) || k < 0) {
            return -1;
        }
        return k < cushionOf(judge).size() ? cushionOf(judge).get(k) : -2;
    }

    private static int bits(Set<Integer> set) {
        return set.stream().mapToInt(x -> 1 << x).sum();
    }

    int knows(int clerk) {
        return isClerk(clerk) ? bits(now.heard.get(clerk)) : -1;
    }

    int damp(int day) {
        return day < 0 || day > 9999 ? -1 : told.dampOf(day);
    }

    private static Map<String, Integer> names(Judge judge, Case cause, int plump, int moist, int day) {
        Map<String, Integer> names = new HashMap<>();
        names.put("lean", judge.lean);
        names.put("stiff", judge.stiff);
        names.put("grave", cause == null ? 0 : cause.grave);
        names.put("plump", plump);
        names.put("moist", moist);
        names.put("sure", cause == null ? 0 : Math.abs(cause.grave - judge.lean));
        names.put("day", day);
        return names;
    }

    private long worked(String law, Map<String, Integer> names) {
        return told.laws.containsKey(law) ? told.laws.get(law).value(names) : ERROR;
    }

    long law(int what, int which) {
        if (what == 2 && isJudge(which)) {
            return worked("fly",
                    names(told.judges.get(which), null, cushionOf(which).size(), told.dampOf(now.day), now.day));
        }
        if ((what == 0 || what == 1) && isCase(which)) {
            int judge = now.judgeOf[which];
            return worked(what == 0 ? "think" : "say", names(told.judges.get(judge), told.cases.get(which),
                    cushionOf(judge).size(), told.dampOf(now.day), now.day));
        }
        return ERROR;
    }

    private boolean thinks(Map<String, Integer> names) {
        long value = worked("think", names);
        return value == ERROR ? names.get("grave") > names.get("lean") : value != 0;
    }

    private boolean says(Map<String, Integer> names) {
        long value = worked("say", names);
        if (value != ERROR) {
            return value != 0;
        }
        return names.get("stiff") >= 5 && names.get("sure") < 10 || thinks(names);
    }

    private void pass(State state, int n, Ways ways) {
        for (int i = 0; i < n; i++) {
            passOne(state, ways);
        }
    }

    private void passOne(State state, Ways ways) {
        int moist = ways.damp(told, state.day);
        for (int i = 0; i < told.cases.size(); i++) {
            int judge = state.judgeOf[i];
            if (told.cases.get(i).day == state.day && ways.hears(judge)) {
                List<Integer> cushion = state.cushions.get(state.cushionOf[judge]);
                Map<String, Integer> names =
                        names(told.judges.get(judge), told.cases.get(i), cushion.size(), moist, state.day);
                boolean thought = thinks(names);
                boolean said = ways.frank() ? thought : says(names);
                state.thought.put(i, thought);
                state.said.put(i, said);
                if (thought != said) {
                    cushion.add(i);
                    if (cushion.size() > 8) {
                        state.lost.add(cushion.remove(0));
                    }
                }
            }
        }
        for (int k = 0; state.day % 7 == 0 && k < told.judges.size(); k++) {
            if (ways.airs(state, k)) {
                air(state, k, moist, ways);
            }
        }
        state.day++;
    }

    private void air(State state, int k, int moist, Ways ways) {
        int holder = 0;
        while (state.cushionOf[holder] != k) {
            holder++;
        }
        List<Integer> cushion = state.cushions.get(k);
        long flying = worked("fly", names(told.judges.get(holder), null, cushion.size(), moist, state.day));
        if (flying == ERROR) {
            flying = ways.beat(told) + moist / 3;
        }
        flying = Math.max(0, Math.min(8, flying));
        for (int i = 0; i < flying && !cushion.isEmpty(); i++) {
            int cause = cushion.remove(cushion.size() - 1);
            state.out.add(cause);
            for (int c = 0; c < told.clerks.size(); c++) {
                Clerk clerk = told.clerks.get(c);
                if ((clerk.days >> state.day % 7 & 1) == 1 && clerk.ears >= cushion.size()) {
                    state.heard.get(c).add(cause);
                }
            }
        }
    }

    private void remember() {
        undo.add(now.copy());
        if (undo.size() > 20) {
            undo.remove(0);
        }
    }

    boolean exchange(int one, int other) {
        if (!isJudge(one) || !isJudge(other) || one == other) {
            return false;
        }
        remember();
        int cushion = now.cushionOf[one];
        now.cushionOf[one] = now.cushionOf[other];
        now.cushionOf[other] = cushion;
        return true;
    }

    boolean keepIn(int judge, boolean is) {
        if (!isJudge(judge) || now.keptIn.contains(now.cushionOf[judge]) == is) {
            return false;
        }
        remember();
        if (is) {
            now.keptIn.add(now.cushionOf[judge]);
        } else {
            now.keptIn.remove(now.cushionOf[judge]);
        }
        return true;
    }

    int restuff(int judge) {
        if (!isJudge(judge)) {
            return -1;
        }
        remember();
        int lost = cushionOf(judge).size();
        now.lost.addAll(cushionOf(judge));
        cushionOf(judge).clear();
        return lost;
    }

    boolean give(int cause, int judge) {
        if (!isCase(cause) || !isJudge(judge) || now.said.containsKey(cause) || now.judgeOf[cause] == judge) {
            return false;
        }
        remember();
        now.judgeOf[cause] = judge;
        return true;
    }

    int days(int n) {
        if (n < 0 || n > 99 || now.day + n > 9900) {
            return -1;
        }
        if (n > 0) {
            undo.clear();
        }
        pass(now, n, new Ways());
        return now.day;
    }

    private State after(int n, Ways ways) {
        State state = now.copy();
        pass(state, n, ways);
        return state;
    }

    private static long guilty(State state) {
        return state.said.values().stream().filter(x -> x).count();
    }

    int ahead(int n, int what) {
        if (n < 0 || n > 99 || what < 0 || what > 3) {
            return -1;
        }
        State then = after(n, new Ways());
        Set<Integer> more = then.knownToAny();
        more.removeAll(now.knownToAny());
        return new int[] {(int) (guilty(then) - guilty(now)), more.size(), then.lost.size() - now.lost.size(),
            then.out.size() - now.out.size()}[what];
    }

    int airing(int n, int what) {
        if (n < 1 || n > 4 || what < 0 || what > 5) {
            return -1;
        }
        int judges = told.judges.size();
        if (what < 5 && what >= judges) {
            return -2;
        }
        int first = (7 - now.day % 7) % 7 + now.day;
        int best = -1;
        long least = Long.MAX_VALUE;
        int all = (int) Math.pow(n, judges);
        for (int way = 0; way < all; way++) {
            int tried = way;
            State then = after(first + 7 * (n - 1) + 1 - now.day, new Ways() {
                @Override boolean airs(State state, int cushion) {
                    return (state.day - first) / 7 == monday(tried, cushion, n, judges);
                }
            });
            long more = then.pairs() - now.pairs();
            if (more < least) {
                least = more;
                best = way;
            }
        }
        return what == 5 ? (int) least : monday(best, what, n, judges);
    }

    private static int monday(int way, int cushion, int n, int judges) {
        return way / (int) Math.pow(n, judges - 1 - cushion) % n;
    }

    int away() {
        State then = after((7 - now.day % 7) % 7 + 1, new Ways());
        int bits = 0;
        for (int i = 0; i < 5; i++) {
            bits += then.heard.get(i).equals(now.heard.get(i)) ? 0 : 1 << i;
        }
        return bits;
    }

    int given(int what) {
        if (what < 0 || what > 6) {
            return -1;
        }
        List<Integer> toCome = new ArrayList<>();
        for (int i = 0; i < told.cases.size() && toCome.size() < 6; i++) {
            if (told.cases.get(i).day >= now.day) {
                toCome.add(i);
            }
        }
        if (what < 6 && what >= toCome.size()) {
            return -2;
        }
        int judges = told.judges.size();
        int least = Integer.MAX_VALUE;
        int[] best = null;
        for (int way = 0; way < Math.pow(judges, toCome.size()); way++) {
            int[] judge = new int[6];
            int[] load = new int[5];
            int sum = 0;
            boolean can = true;
            int rest = way;
            for (int i = toCome.size() - 1; i >= 0; i--) {
                judge[i] = rest % judges;
                rest /= judges;
                can &= ++load[judge[i]] <= 2;
                sum += Math.abs(told.cases.get(toCome.get(i)).grave - told.judges.get(judge[i]).lean);
            }
            if (can && sum < least) {
                least = sum;
                best = judge;
            }
        }
        if (toCome.isEmpty()) {
            return 0;
        }
        return best == null ? -3 : what == 6 ? least : best[what];
    }

    private static int term(long above, long below, int what) {
        if (below == 0) {
            return what;
        }
        long common = java.math.BigInteger.valueOf(above).gcd(java.math.BigInteger.valueOf(below)).longValue();
        return (int) ((what == 0 ? above : below) / common);
    }

    int lot(int cause, int what) {
        if (!isCase(cause) || what < 0 || what > 1) {
            return -1;
        }
        int guilty = 0;
        for (int i = 0; i < told.judges.size(); i++) {
            guilty += thinks(names(told.judges.get(i), told.cases.get(cause), cushionOf(i).size(),
                    told.dampOf(now.day), now.day)) ? 1 : 0;
        }
        return term(guilty, told.judges.size(), what);
    }

    int clashes() {
        int clashes = 0;
        for (int i : now.said.keySet()) {
            for (int k : now.said.keySet()) {
                clashes += now.said.get(i) && !now.said.get(k)
                        && told.cases.get(i).grave < told.cases.get(k).grave ? 1 : 0;
            }
        }
        return clashes;
    }

    int bold(int judge, int what) {
        if (!isJudge(judge) || what < 0 || what > 1) {
            return -1;
        }
        long bold = now.said.keySet().stream()
                .filter(x -> now.judgeOf[x] == judge && now.said.get(x) != now.thought.get(x)).count();
        return term(bold, heardBy(judge), what);
    }

    private List<Integer> restList(int judge) {
        int feathers = cushionOf(judge).size();
        int[][] first = new int[5][5];
        int[][] second = new int[5][5];
        for (int a = 0; a < 5; a++) {
            for (int b = 0; b < 5; b++) {
                first[a][b] = (a > b ? feathers : a == b ? feathers / 2 : 0) - a;
                second[a][b] = (b > a ? feathers : a == b ? feathers / 2 : 0) - b;
            }
        }
        List<Integer> rests = new ArrayList<>();
        for (int a = 0; a < 5; a++) {
            for (int b = 0; b < 5; b++) {
                boolean rests2 = true;
                for (int x = 0; x < 5; x++) {
                    rests2 &= first[x][b] <= first[a][b] && second[a][x] <= second[a][b];
                }
                if (rests2) {
                    rests.add(10 * a + b);
                }
            }
        }
        return rests;
    }

    int rests(int judge) {
        return isJudge(judge) ? restList(judge).size() : -1;
    }

    int rest(int judge, int k) {
        if (!isJudge(judge) || k < 0) {
            return -1;
        }
        return k < restList(judge).size() ? restList(judge).get(k) : -2;
    }

    int empties(int judge) {
        if (!isJudge(judge)) {
            return -1;
        }
        int own = now.cushionOf[judge];
        State state = now.copy();
        int mondays = 0;
        while (mondays <= 20) {
            if (state.cushions.get(own).isEmpty() && (mondays == 0 || state.day % 7 == 1)) {
                return mondays;
            }
            do {
                pass(state, 1, new Ways() {
                    @Override boolean airs(State x, int cushion) {
                        return cushion == own || super.airs(x, cushion);
                    }
                });
            } while (state.day % 7 != 1);
            mondays++;
        }
        return -2;
    }

    int plumpest() {
        int best = -1;
        for (int i = 0; i < told.judges.size(); i++) {
            if (best < 0 || cushionOf(i).size() > cushionOf(best).size()) {
                best = i;
            }
        }
        return best;
    }

    int gossip(int cause) {
        if (!isCase(cause)) {
            return -1;
        }
        int bits = 0;
        for (int i = 0; i < 5; i++) {
            bits += now.heard.get(i).contains(cause) ? 1 << i : 0;
        }
        return bits;
    }

    int learns(int clerk, int n) {
        if (!isClerk(clerk) || n < 1 || n > 99) {
            return -1;
        }
        for (int i = 1; i <= n; i++) {
            if (after(i, new Ways()).heard.get(clerk).size() > now.heard.get(clerk).size()) {
                return i;
            }
        }
        return -2;
    }

    int plump(int judge, int n) {
        if (!isJudge(judge) || n < 0 || n > 99) {
            return -1;
        }
        return after(n, new Ways()).cushions.get(now.cushionOf[judge]).size();
    }

    int find(int cause, int judge, boolean is) {
        if (!isCase(cause) || !isJudge(judge) || found.size() == 24) {
            return -1;
        }
        Found one = new Found();
        one.cause = cause;
        one.judge = judge;
        one.is = is;
        found.add(one);
        return found.size() - 1;
    }

    int strike(int which) {
        if (which < 0 || which >= found.size() || found.size() == 24) {
            return -1;
        }
        Found one = new Found();
        one.strikes = which;
        found.add(one);
        return found.size() - 1;
    }

    boolean known(int n) {
        if (n < -1 || n > found.size()) {
            return false;
        }
        knownBy = n;
        return true;
    }

    private int first() {
        return knownBy < 0 ? found.size() : knownBy;
    }

    private boolean stands(int which) {
        for (int i = which + 1; i < first(); i++) {
            if (found.get(i).strikes == which && stands(i)) {
                return false;
            }
        }
        return true;
    }

    /** Each way: for each judge who has now what is rightly its own. */
    private void deal(List<Integer> way, List<List<Integer>> ways) {
        int judge = way.size();
        if (judge == told.judges.size()) {
            ways.add(new ArrayList<>(way));
            return;
        }
        for (int holder = 0; holder < told.judges.size(); holder++) {
            boolean can = !way.contains(holder);
            for (int i = 0; i < first(); i++) {
                Found x = found.get(i);
                if (x.strikes < 0 && x.judge == judge && stands(i)) {
                    can &= cushionOf(holder).contains(x.cause) == x.is;
                }
            }
            if (can) {
                way.add(holder);
                deal(way, ways);
                way.remove(way.size() - 1);
            }
        }
    }

    private List<List<Integer>> allWays() {
        List<List<Integer>> ways = new ArrayList<>();
        deal(new ArrayList<>(), ways);
        return ways;
    }

    int ways() {
        return allWays().size();
    }

    int whose(int judge) {
        if (!isJudge(judge)) {
            return -1;
        }
        Set<Integer> holders = new HashSet<>();
        allWays().forEach(x -> holders.add(x.get(judge)));
        return bits(holders);
    }

    int leans(int judge) {
        if (!isJudge(judge)) {
            return -1;
        }
        int bits = 0;
        for (int ten = 0; ten < 10; ten++) {
            Judge other = new Judge();
            other.lean = 10 * ten;
            other.stiff = told.judges.get(judge).stiff;
            boolean can = true;
            for (int i : now.said.keySet()) {
                if (now.judgeOf[i] == judge) {
                    Case x = told.cases.get(i);
                    can &= says(names(other, x, 0, told.dampOf(x.day), x.day)) == now.said.get(i);
                }
            }
            bits += can ? 1 << ten : 0;
        }
        return bits;
    }

    int chance(int seed, int n, int out) {
        if (seed < 0 || n < 1 || n > 99 || out < 0 || out > 99) {
            return -1;
        }
        long[] last = {seed};
        int times = 0;
        for (int i = 0; i < 10; i++) {
            State then = after(n, new Ways() {
                @Override int damp(Told x, int day) {
                    last[0] = (last[0] * 1103515245L + 12345L) % (1L << 31);
                    return (int) (last[0] / 65536 % 10);
                }
            });
            times += then.out.size() - now.out.size() >= out ? 1 : 0;
        }
        return times;
    }

    int tried(int what, int i, int n) {
        if (what < 0 || what > 4 || n < 0 || n > 99 || what == 2 && !isJudge(i) || what != 2 && i != 0) {
            return -1;
        }
        return after(n, new Ways() {
            @Override int damp(Told x, int day) {
                return what == 1 ? 0 : super.damp(x, day);
            }

            @Override int beat(Told x) {
                return what == 4 ? 9 : super.beat(x);
            }

            @Override boolean hears(int judge) {
                return what != 2 || judge != i;
            }

            @Override boolean frank() {
                return what == 3;
            }

            @Override boolean airs(State state, int cushion) {
                return what == 0 || super.airs(state, cushion);
            }
        }).out.size() - now.out.size();
    }

    int undo() {
        if (undo.isEmpty()) {
            return -1;
        }
        now = undo.remove(undo.size() - 1);
        return undo.size();
    }

    int keep() {
        image = now.copy();
        return now.day;
    }

    int back() {
        if (image == null) {
            return -1;
        }
        now = image.copy();
        undo.clear();
        return now.day;
    }

    int count(int what) {
        int[] counts = {told.judges.size(), told.cases.size(), told.clerks.size(), told.knots, now.day,
            now.said.size(), (int) guilty(now), now.cushions.stream().mapToInt(List::size).sum(), now.out.size(),
            now.lost.size(), found.size(), first(), undo.size()};
        return what < 0 || what >= counts.length ? -1 : counts[what];
    }
}
