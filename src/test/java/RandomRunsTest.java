import java.util.NoSuchElementException;
import java.util.Random;

/** Random runs of calls, the class held against PlainCourt answer by answer. */
public final class RandomRunsTest {
    private static final long OUT_OF_BOUNDS = -1001;
    private static final long NO_SUCH = -1002;

    private final Random random;
    private final CushionCourt court = new CushionCourt();
    private final PlainCourt plain = new PlainCourt();
    private final StringBuilder story = new StringBuilder();
    private int wrong;

    private RandomRunsTest(long seed) {
        random = new Random(seed);
    }

    public static void main(String[] args) {
        int runs = args.length > 0 ? Integer.parseInt(args[0]) : 1500;
        long from = args.length > 1 ? Long.parseLong(args[1]) : 0;
        int wrong = 0;
        for (long seed = from; seed < from + runs && wrong < 10; seed++) {
            RandomRunsTest run = new RandomRunsTest(seed);
            run.run(seed);
            wrong += run.wrong;
        }
        System.out.println(runs + " random runs, " + wrong + " wrong answers");
        if (wrong != 0) {
            System.exit(1);
        }
    }

    private void run(long seed) {
        TextMaker maker = new TextMaker(random);
        int texts = 1 + random.nextInt(3);
        for (int i = 0; i < texts && wrong == 0; i++) {
            String text = random.nextInt(4) == 0 ? maker.spoiled() : maker.text();
            tell(text);
            int calls = 20 + random.nextInt(80);
            for (int k = 0; k < calls && wrong == 0; k++) {
                call();
            }
        }
        if (wrong != 0) {
            System.out.println("seed " + seed + ":\n" + story);
        }
    }

    private void tell(String text) {
        int n = Math.min(text.length(), 700);
        for (int i = 0; i < n; i += 20) {
            int[] x = new int[5];
            for (int k = 0; k < 20; k++) {
                int sign = i + k < n ? text.charAt(i + k) : ' ';
                x[k / 4] = x[k / 4] << 8 | sign;
            }
            due("feed", court.feed(x[0], x[1], x[2], x[3], x[4]), plain.feed(x));
        }
        story.append("  \"").append(text).append("\"\n");
        due("text " + n, court.text(n), plain.text(n));
        due("fault 0", court.fault(0), plain.fault(0));
        due("fault 1", court.fault(1), plain.fault(1));
    }

    private void due(String call, long got, long want) {
        story.append("  ").append(call).append(" -> ").append(got).append('\n');
        if (got != want) {
            wrong++;
            story.append("  WRONG, due is ").append(want).append('\n');
        }
    }

    private int oneOf(int many) {
        return random.nextInt(20) == 0 ? wrongFor(many) : random.nextInt(Math.max(1, many));
    }

    private int judge() {
        return oneOf(plain.count(0));
    }

    private int cause() {
        return oneOf(plain.count(1));
    }

    private int clerk() {
        return oneOf(plain.count(2));
    }

    /** Mostly just beyond what there is, or at the ends of all numbers. */
    private int wrongFor(int many) {
        int[] ends = {Integer.MIN_VALUE, Integer.MAX_VALUE, Integer.MAX_VALUE - 6, random.nextInt()};
        return random.nextInt(4) == 0 ? ends[random.nextInt(4)] : random.nextInt(many + 5) - 2;
    }

    private int span() {
        switch (random.nextInt(40)) {
            case 39:
                return wrongFor(100);
            case 38:
            case 37:
            case 36:
            case 0:
                return random.nextInt(103) - 2;
            case 1:
            case 2:
            case 3:
            case 4:
            case 5:
                return random.nextInt(40);
            default:
                return random.nextInt(10);
        }
    }

    private int upTo(int most) {
        return oneOf(most + 1);
    }

    private void call() {
        switch (random.nextInt(5)) {
            case 0:
                look();
                break;
            case 1:
                change();
                break;
            case 2:
                foresee();
                break;
            case 3:
                weigh();
                break;
            default:
                search();
        }
    }

    private long causeOf(int cause, int what) {
        try {
            return court.cause(cause, what);
        } catch (IndexOutOfBoundsException x) {
            return OUT_OF_BOUNDS;
        } catch (NoSuchElementException x) {
            return NO_SUCH;
        }
    }

    private long plainCauseOf(int cause, int what) {
        try {
            return plain.cause(cause, what);
        } catch (IndexOutOfBoundsException x) {
            return OUT_OF_BOUNDS;
        } catch (NoSuchElementException x) {
            return NO_SUCH;
        }
    }

    private void look() {
        int judge = judge();
        int cause = cause();
        int clerk = clerk();
        int what = upTo(6);
        switch (random.nextInt(9)) {
            case 0:
                due("cause " + cause + " " + what, causeOf(cause, what), plainCauseOf(cause, what));
                break;
            case 1:
                due("judge " + judge + " " + what, court.judge(judge, what), plain.judge(judge, what));
                break;
            case 2:
                due("feather " + judge + " " + (what - 1), court.feather(judge, what - 1),
                        plain.feather(judge, what - 1));
                break;
            case 3:
                due("knows " + clerk, court.knows(clerk), plain.knows(clerk));
                break;
            case 4:
                int day = upTo(9999);
                due("damp " + day, court.damp(day), plain.damp(day));
                break;
            case 5:
                int law = upTo(2);
                int which = law == 2 ? judge : cause;
                due("law " + law + " " + which, court.law(law, which), plain.law(law, which));
                break;
            case 6:
                int kind = upTo(2);
                int letters = PlainCourt.letters(TextMaker.name(random));
                due("named " + kind + " " + letters, court.named(kind, letters), plain.named(kind, letters));
                break;
            case 7:
                due("gossip " + cause, court.gossip(cause), plain.gossip(cause));
                break;
            default:
                int all = upTo(12);
                due("count " + all, court.count(all), plain.count(all));
        }
    }

    private static long one(boolean is) {
        return is ? 1 : 0;
    }

    private void change() {
        int judge = judge();
        int other = judge();
        int cause = cause();
        boolean is = random.nextInt(3) > 0;
        switch (random.nextInt(9)) {
            case 0:
                due("exchange " + judge + " " + other, one(court.exchange(judge, other)),
                        one(plain.exchange(judge, other)));
                break;
            case 1:
                due("keepIn " + judge + " " + is, one(court.keepIn(judge, is)), one(plain.keepIn(judge, is)));
                break;
            case 2:
                due("restuff " + judge, court.restuff(judge), plain.restuff(judge));
                break;
            case 3:
                due("give " + cause + " " + judge, one(court.give(cause, judge)), one(plain.give(cause, judge)));
                break;
            case 4:
            case 5:
                int n = random.nextInt(12) == 0 ? span() : random.nextInt(6);
                due("days " + n, court.days(n), plain.days(n));
                break;
            case 6:
                due("undo", court.undo(), plain.undo());
                break;
            case 7:
                due("keep", court.keep(), plain.keep());
                break;
            default:
                due("back", court.back(), plain.back());
        }
    }

    private void foresee() {
        int judge = judge();
        int n = span();
        switch (random.nextInt(8)) {
            case 0:
                int what = upTo(3);
                due("ahead " + n + " " + what, court.ahead(n, what), plain.ahead(n, what));
                break;
            case 1:
                int mondays = random.nextInt(10) == 0 ? random.nextInt(7) - 1 : 1 + random.nextInt(3);
                int which = upTo(5);
                due("airing " + mondays + " " + which, court.airing(mondays, which), plain.airing(mondays, which));
                break;
            case 2:
                due("away", court.away(), plain.away());
                break;
            case 3:
                due("empties " + judge, court.empties(judge), plain.empties(judge));
                break;
            case 4:
                int clerk = clerk();
                due("learns " + clerk + " " + n, court.learns(clerk, n), plain.learns(clerk, n));
                break;
            case 5:
                due("plump " + judge + " " + n, court.plump(judge, n), plain.plump(judge, n));
                break;
            case 6:
                int seed = random.nextInt() >>> (random.nextInt(9) == 0 ? 0 : 1);
                int out = upTo(4);
                due("chance " + seed + " " + n + " " + out, court.chance(seed, n, out), plain.chance(seed, n, out));
                break;
            default:
                int way = upTo(4);
                int i = way == 2 || random.nextInt(20) == 0 ? judge : 0;
                due("tried " + way + " " + i + " " + n, court.tried(way, i, n), plain.tried(way, i, n));
        }
    }

    private void weigh() {
        int judge = judge();
        int cause = cause();
        int what = upTo(1);
        switch (random.nextInt(8)) {
            case 0:
                int which = upTo(6);
                due("given " + which, court.given(which), plain.given(which));
                break;
            case 1:
                due("lot " + cause + " " + what, court.lot(cause, what), plain.lot(cause, what));
                break;
            case 2:
                due("clashes", court.clashes(), plain.clashes());
                break;
            case 3:
                due("bold " + judge + " " + what, court.bold(judge, what), plain.bold(judge, what));
                break;
            case 4:
                due("rests " + judge, court.rests(judge), plain.rests(judge));
                break;
            case 5:
                int k = upTo(4);
                due("rest " + judge + " " + k, court.rest(judge, k), plain.rest(judge, k));
                break;
            case 6:
                due("plumpest", court.plumpest(), plain.plumpest());
                break;
            default:
                due("leans " + judge, court.leans(judge), plain.leans(judge));
        }
    }

    private void search() {
        int judge = judge();
        int cause = cause();
        switch (random.nextInt(7)) {
            case 0:
            case 1:
                // Mostly what is so, for else there soon is no way left.
                boolean is = plain.count(0) > 0 && hasNow(judge, cause) ^ random.nextInt(5) == 0;
                due("find " + cause + " " + judge + " " + is, court.find(cause, judge, is),
                        plain.find(cause, judge, is));
                break;
            case 2:
                int found = random.nextInt(3) == 0 ? wrongFor(plain.count(10)) : oneOf(plain.count(10));
                due("strike " + found, court.strike(found), plain.strike(found));
                break;
            case 3:
                int n = random.nextInt(3) == 0 ? wrongFor(plain.count(10)) : oneOf(plain.count(10));
                due("known " + n, one(court.known(n)), one(plain.known(n)));
                break;
            case 4:
                due("ways", court.ways(), plain.ways());
                break;
            default:
                due("whose " + judge, court.whose(judge), plain.whose(judge));
        }
    }

    private boolean hasNow(int judge, int cause) {
        for (int i = 0; i < 8; i++) {
            if (plain.feather(judge, i) == cause) {
                return true;
            }
        }
        return false;
    }
}
