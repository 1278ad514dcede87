import java.math.BigInteger;

/**
 * Boundary cases of promises 17 to 26, 29, 30 and 36 to 38 (Terms, ==== 3): what comes, what is best, what might be.
 * A method for each sentence or part of one, which stands above it as a remark.
 */
public final class AskedEdgesTest {
    private static final Checks CHECKS = new Checks();
    private static final int LEAST = Integer.MIN_VALUE;
    private static final int MOST = Integer.MAX_VALUE;
    private static final int[] WRONG_SPANS = {-1, 100, LEAST, MOST};
    private static final String CONTRARY = "law say not(grave>lean);";

    public static void main(String[] args) {
        promise17Spans();
        promise17What();
        promise17LastDay();
        promise17MoreThanNow();
        promise17Heard();
        promise17Lost();
        promise18Numbers();
        promise18What();
        promise18NotSoMany();
        promise18TodaysMonday();
        promise18EndOfTheLastOne();
        promise18FirstOfSeveral();
        promise18LastMonday();
        promise18KeptInOrNot();
        promise18EachClerkAndCase();
        promise18ByCushions();
        promise19Today();
        promise19ThisMondayAlone();
        promise19Bits();
        mondaysOfLaterWeeks();
        promise20What();
        promise20NotSoMany();
        promise20ItCannotBe();
        promise20FirstSix();
        promise20FirstOfSeveral();
        promise20Sum();
        promise20BehindALargerText();
        promise21NoSuchOnes();
        promise21LeastTerms();
        promise21Today();
        promise22Pairs();
        promise22MostPairs();
        promise23NoSuchOnes();
        promise23NoneHeard();
        promise23LeastTerms();
        promise24Rests();
        promise25NotSoMany();
        promise24And25NoSuchJudge();
        promise26NoSuchJudge();
        promise26Empty();
        promise26TodaysMonday();
        promise26TwentyMondays();
        promise26KeptInOrNot();
        promise29NoSuchOnes();
        promise29Today();
        promise29NotByThen();
        promise29KnowsMore();
        promise30NoSuchOnes();
        promise30Days();
        promise30TheCushionThatItHasNow();
        promise36NoSuchJudge();
        promise36NothingHeard();
        promise36Tens();
        promise36Near();
        promise36NoneFits();
        promise36DampDayAndPlump();
        promise37NoSuchOnes();
        promise37AtLeast();
        promise37Numbers();
        promise37Seeds();
        promise37OneBehindAnother();
        promise38NoSuchOnes();
        promise38NoSuchJudge();
        promise38Days();
        promise38Otherwise();
        CHECKS.end("AskedEdgesTest");
    }

    private static void due(String what, long got, long want) {
        CHECKS.due(what, got, want);
    }

    private static String cases(String judge, int many, int day) {
        StringBuilder text = new StringBuilder();
        for (char name = 'a'; name < 'a' + many; name++) {
            text.append("cause ").append(name).append(' ').append(judge).append(' ').append(day).append(" 10;");
        }
        return text.toString();
    }

    /** One judge, and so many cases on a DAY, each of which leaves a feather. */
    private static String feathers(int many, int day, String more) {
        return "judge a 50 0;" + CONTRARY + cases("a", many, day) + more;
    }

    private static String judges(int many) {
        StringBuilder text = new StringBuilder();
        for (char name = 'a'; name < 'a' + many; name++) {
            text.append("judge ").append(name).append(" 50 0;");
        }
        return text.toString();
    }

    // 17: "AHEAD (n 0 .. 99)"; "NONE: no such ones".
    private static void promise17Spans() {
        CushionCourt court = Checks.court(feathers(3, 0, ""));
        String before = Checks.state(court);
        for (int what = 0; what <= 3; what++) {
            due("17 no day, what " + what, court.ahead(0, what), 0);
            for (int wrong : WRONG_SPANS) {
                due("17 n " + wrong + ", what " + what, court.ahead(wrong, what), -1);
            }
        }
        due("17 one day", court.ahead(1, 0), 3);
        due("17 one day, out", court.ahead(1, 3), 1);
        due("17 99 days, out", court.ahead(99, 3), 3);
        CHECKS.same("17 asking lets no day go by", Checks.state(court), before);
        due("17 of none", new CushionCourt().ahead(99, 0), 0);
    }

    // 17: "what 0 guilty, 1 HEARD, 2 LOST, 3 OUT. NONE: no such ones".
    private static void promise17What() {
        CushionCourt court = Checks.court(feathers(10, 1, "beat 3;clerk k 1 6;"));
        due("17 what 0", court.ahead(8, 0), 10);
        due("17 what 1", court.ahead(8, 1), 2);
        due("17 what 2", court.ahead(8, 2), 2);
        due("17 what 3", court.ahead(8, 3), 3);
        due("17 what -1", court.ahead(8, -1), -1);
        due("17 what 4", court.ahead(8, 4), -1);
        due("17 least what", court.ahead(8, LEAST), -1);
        due("17 most what", court.ahead(8, MOST), -1);
    }

    // 17: for n DAYS: the last of them counts, the one behind it doesn't.
    private static void promise17LastDay() {
        CushionCourt court = Checks.court("judge a 50 0;cause p a 98 60;cause q a 99 60;");
        due("17 98 days", court.ahead(98, 0), 0);
        due("17 99 days", court.ahead(99, 0), 1);
        court.days(1);
        due("17 99 days from DAY 1", court.ahead(99, 0), 2);
        CushionCourt aired = Checks.court(feathers(1, 1, ""), 2);
        due("17 up to the Monday", aired.ahead(5, 3), 0);
        due("17 with the Monday", aired.ahead(6, 3), 1);
    }

    // 17: "how many more".
    private static void promise17MoreThanNow() {
        CushionCourt court = Checks.court(feathers(9, 0, "cause z a 8 10;clerk k 1 9;"), 1);
        due("17 guilty now", court.count(6), 9);
        due("17 out now", court.count(8), 1);
        due("17 lost now", court.count(9), 1);
        due("17 no more guilty", court.ahead(7, 0), 0);
        due("17 one more guilty", court.ahead(8, 0), 1);
        due("17 one more heard", court.ahead(7, 1), 1);
        due("17 one more out", court.ahead(7, 3), 1);
        due("17 none more lost", court.ahead(8, 2), 0);
    }

    // 17: "are HEARD by some CLERK (that none knew)".
    private static void promise17Heard() {
        due("17 by none", Checks.court(feathers(1, 1, "")).ahead(8, 1), 0);
        due("17 by one", Checks.court(feathers(1, 1, "clerk k 1 0;")).ahead(8, 1), 1);
        due("17 by five, one case", Checks.court(feathers(1, 1,
                "clerk a 1 0;clerk b 1 0;clerk c 1 0;clerk d 1 0;clerk e 1 0;")).ahead(8, 1), 1);
        due("17 by two, each another", Checks.court(feathers(2, 1, "beat 2;clerk a 1 0;clerk b 1 1;")).ahead(8, 1), 2);
        due("17 out, but too deep for ears", Checks.court(feathers(2, 1, "clerk a 1 0;")).ahead(8, 1), 0);
    }

    // 17: LOST: of nine the lowest one.
    private static void promise17Lost() {
        for (int many = 7; many <= 10; many++) {
            due("17 lost of " + many, Checks.court(feathers(many, 1, "")).ahead(2, 2), Math.max(0, many - 8));
        }
    }

    // 18: "AIRING (n 1 .. 4)"; "NONE: no such ones".
    private static void promise18Numbers() {
        CushionCourt court = Checks.court(feathers(1, 1, "clerk k 1 9;"), 2);
        String before = Checks.state(court);
        int[] wrong = {0, 5, -1, LEAST, MOST};
        for (int n : wrong) {
            for (int what = 0; what <= 5; what++) {
                due("18 n " + n + ", what " + what, court.airing(n, what), -1);
            }
        }
        for (int n = 1; n <= 4; n++) {
            due("18 n " + n, court.airing(n, 0), 0);
            due("18 n " + n + ", heard", court.airing(n, 5), 1);
        }
        CHECKS.same("18 asking lets no day go by", Checks.state(court), before);
    }

    // 18: "what 0 .. 4 ..., 5 ... NONE: no such ones".
    private static void promise18What() {
        CushionCourt court = Checks.court(judges(5));
        due("18 what 0", court.airing(1, 0), 0);
        due("18 what 4", court.airing(1, 4), 0);
        due("18 what 5", court.airing(1, 5), 0);
        due("18 what 6", court.airing(1, 6), -1);
        due("18 what -1", court.airing(1, -1), -1);
        due("18 least what", court.airing(1, LEAST), -1);
        due("18 most what", court.airing(1, MOST), -1);
    }

    // 18: "(-2: not so many)".
    private static void promise18NotSoMany() {
        for (int many = 0; many <= 5; many++) {
            CushionCourt court = Checks.court(judges(many));
            for (int what = 0; what <= 4; what++) {
                due("18 cushion " + what + " of " + many, court.airing(4, what), what < many ? 0 : -2);
            }
            due("18 known more of " + many, court.airing(4, 5), 0);
        }
    }

    // 18: "(the next ones, today's, if it is one)".
    private static void promise18TodaysMonday() {
        // A feather goes down on DAY 1, and on DAY 7 what gets out is not heard: the clerk's ears are for one alone.
        String text = feathers(1, 1, "cause z a 7 10;clerk k 1 0;");
        due("18 Sunday: tomorrow", Checks.court(text, 6).airing(1, 5), 0);
        due("18 Monday: today", Checks.court(text, 7).airing(1, 5), 0);
        CushionCourt court = Checks.court(text, 8);
        due("18 Tuesday: the next Monday, not the last one", court.airing(1, 5), 1);
        CushionCourt first = Checks.court(feathers(1, 0, "clerk k 1 0;"));
        due("18 DAY 0 is a Monday", first.airing(1, 5), 1);
        CushionCourt two = Checks.court(feathers(1, 0, "cause z a 1 10;clerk k 1 0;"));
        due("18 DAY 0 is the first of two", two.airing(2, 0), 1);
    }

    // 18: "by the end of the last one".
    private static void promise18EndOfTheLastOne() {
        due("18 a case of the last one's day", Checks.court(feathers(1, 7, "clerk k 1 9;"), 2).airing(1, 5), 1);
        due("18 a case of the next day", Checks.court(feathers(1, 8, "clerk k 1 9;"), 2).airing(1, 5), 0);
        due("18 a case of the fourth one's day", Checks.court(feathers(1, 28, "clerk k 1 9;law fly day>=28;"), 2)
                .airing(4, 0), 0);
        due("18 a case behind the fourth one", Checks.court(feathers(1, 29, "clerk k 1 9;"), 2).airing(4, 5), 0);
    }

    // 18: "of several the first by CUSHIONS".
    private static void promise18FirstOfSeveral() {
        CushionCourt court = Checks.court(feathers(1, 1, "clerk k 1 9;law fly day=7 or day=14;"), 2);
        due("18 both hear", court.airing(2, 0), 0);
        due("18 the third one doesn't", court.airing(3, 0), 2);
        due("18 the third and the fourth don't: the third", court.airing(4, 0), 2);
        due("18 none of them hears: the first", Checks.court(feathers(1, 1, "")).airing(4, 0), 0);
        CushionCourt two = Checks.court("judge a 50 0;judge b 60 0;" + CONTRARY + "cause p a 1 10;cause q b 1 10;"
                + "clerk k 1 9;law fly (lean=50)<>(day=14);", 2);
        due("18 the first cushion: the second Monday", two.airing(3, 0), 1);
        due("18 the second cushion: the first Monday", two.airing(3, 1), 0);
        due("18 nothing is heard", two.airing(3, 5), 0);
    }

    // 18: n of 4: the fourth MONDAY counts, a fifth one doesn't.
    private static void promise18LastMonday() {
        CushionCourt fourth = Checks.court(feathers(1, 1, "clerk k 1 9;law fly day<>28;"), 2);
        due("18 of three", fourth.airing(3, 0), 0);
        due("18 of three, heard", fourth.airing(3, 5), 1);
        due("18 of four", fourth.airing(4, 0), 3);
        due("18 of four, heard", fourth.airing(4, 5), 0);
        CushionCourt fifth = Checks.court(feathers(1, 1, "clerk k 1 9;law fly day<>35;"), 2);
        due("18 the fifth", fifth.airing(4, 0), 0);
        due("18 the fifth, heard", fifth.airing(4, 5), 1);
    }

    // 18: "each CUSHION, KEPT IN or not, is AIRED on just one of these".
    private static void promise18KeptInOrNot() {
        CushionCourt court = Checks.court(feathers(2, 1, "clerk k 1 9;"), 2);
        due("18 just one airing: one of two", court.airing(4, 5), 1);
        court.keepIn(0, true);
        due("18 kept in", court.airing(4, 5), 1);
        due("18 it is still kept in", court.judge(0, 4), 1);
    }

    // 18: "fewest CASES are known more to CLERKS (each CLERK and CASE one)".
    private static void promise18EachClerkAndCase() {
        String clerks = "clerk a 1 9;clerk b 1 9;clerk c 1 9;clerk d 1 9;clerk e 1 9;";
        due("18 five clerks, eight cases", Checks.court(feathers(8, 1, "beat 9;" + clerks), 2).airing(1, 5), 40);
        CushionCourt court = Checks.court(feathers(2, 1, clerks), 8);
        due("18 known now", court.gossip(1), 31);
        due("18 known more", court.airing(1, 5), 5);
        due("18 known more, of none", Checks.court(feathers(1, 1, clerks), 8).airing(4, 5), 0);
    }

    // 18: "the CUSHION that was a JUDGE's at first".
    private static void promise18ByCushions() {
        CushionCourt court = Checks.court(judges(5) + CONTRARY + "cause p a 1 10;clerk k 1 9;law fly day<>14;", 2);
        due("18 the first cushion", court.airing(2, 0), 1);
        due("18 the fifth cushion", court.airing(2, 4), 0);
        court.exchange(0, 4);
        due("18 the first cushion, whoever has it", court.airing(2, 0), 1);
        due("18 the fifth cushion, whoever has it", court.airing(2, 4), 0);
    }

    // 19: "on the next MONDAY (today, if it is one)".
    private static void promise19Today() {
        String text = feathers(1, 1, "clerk k 1 9;");
        due("19 Wednesday", Checks.court(text, 2).away(), 1);
        due("19 Sunday", Checks.court(text, 6).away(), 1);
        due("19 Monday: today", Checks.court(text, 7).away(), 1);
        due("19 Tuesday: not the Monday that was", Checks.court(text, 8).away(), 0);
        due("19 DAY 0 is a Monday", Checks.court(feathers(1, 0, "clerk k 1 9;")).away(), 1);
        due("19 DAY 0: not the next week's", Checks.court(text).away(), 0);
    }

    // 19: what is told up to that MONDAY counts, what comes behind it doesn't.
    private static void promise19ThisMondayAlone() {
        due("19 a case on the Monday", Checks.court(feathers(1, 7, "clerk k 1 9;"), 1).away(), 1);
        due("19 a case on the day behind it", Checks.court(feathers(1, 8, "clerk k 1 9;"), 1).away(), 0);
        CushionCourt court = Checks.court(feathers(2, 1, "clerk k 1 0;"), 2);
        due("19 the top is too deep for ears", court.away(), 0);
        court.days(6);
        due("19 the lowest one is not", court.away(), 1);
        court.keepIn(0, true);
        due("19 kept in, as it goes", court.away(), 0);
    }

    // 19: bits up to that of the fifth CLERK.
    private static void promise19Bits() {
        due("19 no clerks", Checks.court(feathers(1, 1, "")).away(), 0);
        due("19 no text", new CushionCourt().away(), 0);
        due("19 the first and the fifth", Checks.court(feathers(1, 0,
                "clerk a 1 0;clerk b 0 9;clerk c 2 9;clerk d 126 9;clerk e 127 0;")).away(), 17);
        due("19 all", Checks.court(feathers(1, 0,
                "clerk a 1 0;clerk b 1 0;clerk c 1 0;clerk d 1 0;clerk e 1 0;")).away(), 31);
    }

    // 18, 19, 26: "(today's, if it is one)" in weeks far behind the first one, up to the last DAY.
    private static void mondaysOfLaterWeeks() {
        String text = feathers(2, 1, "clerk k 1 9;law fly day=21 or day=28;");
        for (int day = 15; day <= 29; day++) {
            CushionCourt court = Checks.court(text, day);
            due("19 away on DAY " + day, court.away(), day <= 28 ? 1 : 0);
            due("18 airing on DAY " + day, court.airing(1, 5), day <= 28 ? 1 : 0);
            due("18 which of two on DAY " + day, court.airing(2, 0), day > 21 && day <= 28 ? 1 : 0);
            due("26 empties on DAY " + day, court.empties(0), day > 28 ? 0 : day > 21 ? 1 : 2);
        }
        CushionCourt last = Checks.court(feathers(1, 1, "clerk k 1 9;"));
        last.keepIn(0, true);
        for (int i = 0; i < 100; i++) {
            last.days(99);
        }
        last.keepIn(0, false);
        due("19 away on DAY 9900", last.away(), 1);
        due("18 airing on DAY 9900", last.airing(4, 5), 1);
        due("26 empties on DAY 9900", last.empties(0), 1);
        due("29 learns on DAY 9900, a Wednesday", last.learns(0, 99), 6);
        due("17 ahead on DAY 9900", last.ahead(99, 3), 1);
        due("30 plump on DAY 9900", last.plump(0, 99), 0);
        due("37 chance on DAY 9900", last.chance(1, 99, 1), 10);
        due("38 tried on DAY 9900", last.tried(0, 0, 99), 1);
    }

    // 20: "what 0 .. 5 .., 6 ..; NONE for another what".
    private static void promise20What() {
        CushionCourt court = Checks.court(judges(3) + cases("a", 6, 1));
        due("20 what 0", court.given(0), 0);
        due("20 what 5", court.given(5), 2);
        due("20 what 6", court.given(6), 240);
        due("20 what 7", court.given(7), -1);
        due("20 what -1", court.given(-1), -1);
        due("20 least what", court.given(LEAST), -1);
        due("20 most what", court.given(MOST), -1);
        due("20 another what of what can't be", Checks.court(judges(1) + cases("a", 3, 1)).given(7), -1);
    }

    // 20: "(-2: not so many)": none, some and all six to come.
    private static void promise20NotSoMany() {
        for (int many = 0; many <= 6; many++) {
            CushionCourt court = Checks.court(judges(5) + cases("a", many, 1));
            for (int what = 0; what <= 5; what++) {
                due("20 case " + what + " of " + many, court.given(what), what < many ? what / 2 : -2);
            }
            due("20 sum of " + many, court.given(6), 40 * many);
            court.days(2);
            due("20 heard, first of " + many, court.given(0), -2);
            due("20 heard, sum of " + many, court.given(6), 0);
        }
        due("20 no judges", new CushionCourt().given(6), 0);
        due("20 no judges, first", new CushionCourt().given(0), -2);
    }

    // 20: "-3: it can't be": at most two to one.
    private static void promise20ItCannotBe() {
        for (int judges = 1; judges <= 5; judges++) {
            for (int many = 1; many <= 10; many++) {
                CushionCourt court = Checks.court(judges(judges) + cases("a", many, 1));
                int counted = Math.min(6, many);
                boolean can = counted <= 2 * judges;
                String what = "20 " + many + " cases and " + judges + " judges";
                due(what + ", sum", court.given(6), can ? 40 * counted : -3);
                due(what + ", first", court.given(0), can ? 0 : -3);
                due(what + ", last", court.given(counted - 1), can ? (counted - 1) / 2 : -3);
                due(what + ", behind the last", counted < 6 ? court.given(counted) : -2, -2);
            }
        }
    }

    // 20: "the first six CASES that are to come (by numbers)".
    private static void promise20FirstSix() {
        String text = "judge a 10 0;judge b 50 0;judge c 90 0;cause a a 3 10;cause b a 2 10;cause c a 0 10;"
                + "cause d a 2 50;cause e a 2 50;cause f a 2 90;cause g a 1 90;cause h a 1 10;";
        // The third one of GRAVE 10 is 40 too far from b, and one of GRAVE 50 makes room there, 40 from c.
        CushionCourt court = Checks.court(text);
        due("20 six of eight", court.given(6), 80);
        due("20 six of eight: the sixth", court.given(5), 2);
        court.days(1);
        due("20 six of seven", court.given(6), 0);
        due("20 six of seven: the third is the fourth case", court.given(2), 1);
        due("20 six of seven: the sixth is the seventh case", court.given(5), 2);
        court.days(1);
        due("20 five: the fifth", court.given(4), 2);
        due("20 five: no sixth", court.given(5), -2);
    }

    // 20: "of several the first by CASES".
    private static void promise20FirstOfSeveral() {
        CushionCourt same = Checks.court(judges(5) + cases("e", 3, 1));
        due("20 all alike: the first", same.given(0), 0);
        due("20 all alike: the second", same.given(1), 0);
        due("20 all alike: the third", same.given(2), 1);
        CushionCourt way = Checks.court("judge a 0 0;judge b 20 0;cause p b 1 10;cause q b 1 10;cause r b 1 10;");
        due("20 as far from both: the first", way.given(0), 0);
        due("20 as far from both: the second", way.given(1), 0);
        due("20 as far from both: the third", way.given(2), 1);
        CushionCourt later = Checks.court("judge a 40 0;judge b 50 0;cause p a 1 45;cause q a 1 40;cause r a 1 40;");
        due("20 the first one makes room", later.given(0), 1);
        due("20 the others are at no distance", later.given(6), 5);
    }

    // 20: "6: the sum": the least and the greatest.
    private static void promise20Sum() {
        due("20 least sum", Checks.court(judges(3) + "cause p a 1 50;cause q a 1 50;").given(6), 0);
        StringBuilder text = new StringBuilder("judge a 99 0;judge b 99 0;judge c 99 0;");
        for (char name = 'a'; name < 'a' + 6; name++) {
            text.append("cause ").append(name).append(" a 1 0;");
        }
        due("20 greatest sum", Checks.court(text.toString()).given(6), 594);
        String above = text.toString().replace(" 99 0;", " 0 0;").replace(" 1 0;", " 1 99;");
        due("20 greatest sum, above", Checks.court(above).given(6), 594);
    }

    // 20: all have two, behind a text in which others had room still: nothing of that one counts.
    private static void promise20BehindALargerText() {
        for (int many = 1; many <= 3; many++) {
            CushionCourt court = Checks.court(judges(5) + cases("e", 6, 1));
            due("20 sum of the larger text", court.given(6), 240);
            Checks.tell(court, judges(many) + cases("a", 2 * many, 1));
            due("20 sum of a text of " + many, court.given(6), 80 * many);
            due("20 first of a text of " + many, court.given(0), 0);
            due("20 last of a text of " + many, court.given(2 * many - 1), many - 1);
        }
    }

    // 21: "NONE: no such ones".
    private static void promise21NoSuchOnes() {
        CushionCourt court = Checks.court(judges(2) + "cause p a 1 60;cause q a 1 40;");
        due("21 case 0", court.lot(0, 0), 1);
        due("21 case -1", court.lot(-1, 0), -1);
        due("21 the last case", court.lot(1, 0), 0);
        due("21 behind the last case", court.lot(2, 0), -1);
        due("21 least case", court.lot(LEAST, 0), -1);
        due("21 most case", court.lot(MOST, 1), -1);
        due("21 what 1", court.lot(0, 1), 1);
        due("21 what -1", court.lot(0, -1), -1);
        due("21 what 2", court.lot(0, 2), -1);
        due("21 least what", court.lot(0, LEAST), -1);
        due("21 most what", court.lot(0, MOST), -1);
        // 0 by 1 without judges: there is no case without a judge, so no such case.
        due("21 without judges", new CushionCourt().lot(0, 0), -1);
        due("21 without judges, below", new CushionCourt().lot(0, 1), -1);
    }

    // 21: "LOT in least terms": of each number of judges each number of minds.
    private static void promise21LeastTerms() {
        int[][] above = {{0, 1}, {0, 1, 1}, {0, 1, 2, 1}, {0, 1, 1, 3, 1}, {0, 1, 2, 3, 4, 1}};
        int[][] below = {{1, 1}, {1, 2, 1}, {1, 3, 3, 1}, {1, 4, 2, 4, 1}, {1, 5, 5, 5, 5, 1}};
        for (int judges = 1; judges <= 5; judges++) {
            for (int minds = 0; minds <= judges; minds++) {
                StringBuilder text = new StringBuilder();
                for (int i = 0; i < judges; i++) {
                    text.append("judge ").append((char) ('a' + i)).append(i < minds ? " 49 0;" : " 50 0;");
                }
                CushionCourt court = Checks.court(text + "cause p a 1 50;");
                due("21 above, " + minds + " of " + judges, court.lot(0, 0), above[judges - 1][minds]);
                due("21 below, " + minds + " of " + judges, court.lot(0, 1), below[judges - 1][minds]);
            }
        }
    }

    // 21: "(THOUGHT, by what is so today)", of a case that was heard, too.
    private static void promise21Today() {
        CushionCourt court = Checks.court(judges(3) + "cause p a 1 60;law think day<2 or lean/(day-3);");
        due("21 today", court.lot(0, 0), 1);
        court.days(2);
        due("21 lean by below 0", court.lot(0, 0), 1);
        court.days(1);
        due("21 with an ERROR by GRAVE above LEAN", court.lot(0, 0), 1);
        CushionCourt below = Checks.court(judges(3) + "cause p a 1 50;law think 1/day;");
        due("21 with an ERROR, not above", below.lot(0, 0), 0);
        below.days(1);
        due("21 without an ERROR", below.lot(0, 0), 1);
        below.days(1);
        due("21 heard, and by today", below.lot(0, 0), 0);
    }

    // 22: "pairs of CASES heard, one less GRAVE and SAID guilty, the other one more GRAVE and SAID not guilty".
    private static void promise22Pairs() {
        String judges = "judge a 0 0;judge b 1 0;law say lean=0;";
        due("22 none", new CushionCourt().clashes(), 0);
        due("22 less grave", Checks.court(judges + "cause p a 0 10;cause q b 0 11;", 1).clashes(), 1);
        due("22 as grave", Checks.court(judges + "cause p a 0 10;cause q b 0 10;", 1).clashes(), 0);
        due("22 more grave", Checks.court(judges + "cause p a 0 11;cause q b 0 10;", 1).clashes(), 0);
        due("22 the other way round", Checks.court(judges + "cause q b 0 11;cause p a 0 10;", 1).clashes(), 1);
        due("22 both guilty", Checks.court(judges + "cause p a 0 10;cause q a 0 11;", 1).clashes(), 0);
        due("22 both not", Checks.court(judges + "cause p b 0 10;cause q b 0 11;", 1).clashes(), 0);
        CushionCourt court = Checks.court(judges + "cause p a 0 10;cause q b 1 11;", 1);
        due("22 one isn't heard yet", court.clashes(), 0);
        court.days(1);
        due("22 both are heard", court.clashes(), 1);
    }

    // 22: the most that ten cases can have.
    private static void promise22MostPairs() {
        StringBuilder text = new StringBuilder("judge a 0 0;law say grave<5;");
        for (int i = 0; i < 10; i++) {
            text.append("cause ").append((char) ('a' + i)).append(" a 0 ").append(i).append(';');
        }
        due("22 most", Checks.court(text.toString(), 1).clashes(), 25);
    }

    // 23: "NONE: no such ones".
    private static void promise23NoSuchOnes() {
        CushionCourt court = Checks.court(judges(2) + CONTRARY + "cause p b 0 10;", 1);
        due("23 judge 0", court.bold(0, 0), 0);
        due("23 judge -1", court.bold(-1, 0), -1);
        due("23 the last judge", court.bold(1, 0), 1);
        due("23 behind the last judge", court.bold(2, 0), -1);
        due("23 least judge", court.bold(LEAST, 0), -1);
        due("23 most judge", court.bold(MOST, 0), -1);
        due("23 what 1", court.bold(1, 1), 1);
        due("23 what -1", court.bold(1, -1), -1);
        due("23 what 2", court.bold(1, 2), -1);
        due("23 least what", court.bold(1, LEAST), -1);
        due("23 most what", court.bold(1, MOST), -1);
        due("23 of none", new CushionCourt().bold(0, 0), -1);
    }

    // 23: "(0 by 1, if none was heard)".
    private static void promise23NoneHeard() {
        CushionCourt court = Checks.court(judges(2) + CONTRARY + "cause p a 1 10;", 1);
        due("23 none was heard", court.bold(0, 0), 0);
        due("23 none was heard, below", court.bold(0, 1), 1);
        court.days(1);
        due("23 one was heard", court.bold(0, 0), 1);
        due("23 another heard none", court.bold(1, 0), 0);
        due("23 another heard none, below", court.bold(1, 1), 1);
    }

    // 23: "HOW BOLD in least terms": of ten cases each number.
    private static void promise23LeastTerms() {
        int[] above = {0, 1, 1, 3, 2, 1, 3, 7, 4, 9, 1};
        int[] below = {1, 10, 5, 10, 5, 2, 5, 10, 5, 10, 1};
        for (int bold = 0; bold <= 10; bold++) {
            StringBuilder text = new StringBuilder("judge a 50 0;law say grave>=" + (90 + bold) + ";law think 1;");
            for (int i = 0; i < 10; i++) {
                text.append("cause ").append((char) ('a' + i)).append(" a 0 ").append(90 + i).append(';');
            }
            CushionCourt court = Checks.court(text.toString(), 1);
            due("23 above, " + bold + " of ten", court.bold(0, 0), above[bold]);
            due("23 below, " + bold + " of ten", court.bold(0, 1), below[bold]);
        }
    }

    // 24: how many RESTS, for each number of feathers that a cushion may have; 25: which.
    private static void promise24Rests() {
        int[][] rests = {{0}, {0, 1, 10}, {0, 1, 10, 11}, {}, {}, {}, {}, {}, {44}, {44}};
        for (int many = 0; many <= 9; many++) {
            CushionCourt court = Checks.court(feathers(many, 1, ""), 2);
            due("24 rests of " + many, court.rests(0), rests[many].length);
            for (int k = 0; k < rests[many].length; k++) {
                due("25 rest " + k + " of " + many, court.rest(0, k), rests[many][k]);
            }
        }
    }

    // 25: "-2: there are no so many; NONE likewise, k is below 0".
    private static void promise25NotSoMany() {
        CushionCourt court = Checks.court(feathers(1, 1, ""), 2);
        due("25 the first", court.rest(0, 0), 0);
        due("25 the last", court.rest(0, 2), 10);
        due("25 behind the last", court.rest(0, 3), -2);
        due("25 most k", court.rest(0, MOST), -2);
        due("25 k -1", court.rest(0, -1), -1);
        due("25 least k", court.rest(0, LEAST), -1);
        due("25 there is none", Checks.court(feathers(3, 1, ""), 2).rest(0, 0), -2);
        due("25 there is none, k -1", Checks.court(feathers(3, 1, ""), 2).rest(0, -1), -1);
    }

    // 24: "NONE: no such one"; 25: "NONE likewise".
    private static void promise24And25NoSuchJudge() {
        CushionCourt court = Checks.court(judges(2), 2);
        due("24 the last judge", court.rests(1), 1);
        due("25 the last judge", court.rest(1, 0), 0);
        int[] wrong = {-1, 2, LEAST, MOST};
        for (int judge : wrong) {
            due("24 no such judge " + judge, court.rests(judge), -1);
            due("25 no such judge " + judge, court.rest(judge, 0), -1);
            due("25 no such judge and not so many " + judge, court.rest(judge, 9), -1);
        }
        due("24 of none", new CushionCourt().rests(0), -1);
        due("25 of none", new CushionCourt().rest(0, 0), -1);
    }

    // 26: "NONE: no such JUDGE".
    private static void promise26NoSuchJudge() {
        CushionCourt court = Checks.court(judges(2));
        due("26 the last judge", court.empties(1), 0);
        int[] wrong = {-1, 2, LEAST, MOST};
        for (int judge : wrong) {
            due("26 no such judge " + judge, court.empties(judge), -1);
        }
        due("26 of none", new CushionCourt().empties(0), -1);
    }

    // 26: "(.. 0: it is now)".
    private static void promise26Empty() {
        due("26 nothing yet", Checks.court(feathers(3, 1, "beat 0;"), 1).empties(0), 0);
        due("26 something", Checks.court(feathers(3, 1, "beat 3;"), 2).empties(0), 1);
        due("26 nothing more", Checks.court(feathers(3, 1, "beat 3;"), 8).empties(0), 0);
        CushionCourt court = Checks.court(feathers(3, 1, "beat 0;"), 2);
        due("26 never", court.empties(0), -2);
        court.restuff(0);
        due("26 restuffed", court.empties(0), 0);
    }

    // 26: "(today's, if it is one, the first)".
    private static void promise26TodaysMonday() {
        String text = feathers(2, 1, "");
        due("26 Sunday", Checks.court(text, 6).empties(0), 2);
        due("26 Monday", Checks.court(text, 7).empties(0), 2);
        due("26 Tuesday: one is out", Checks.court(text, 8).empties(0), 1);
        due("26 today is enough", Checks.court(feathers(2, 1, "law fly 8*(day=7);"), 7).empties(0), 1);
        due("26 tomorrow, not today", Checks.court(feathers(2, 1, "law fly 8*(day=14);"), 7).empties(0), 2);
    }

    // 26: "behind how many MONDAYS .., 20 at most"; "-2: not by then".
    private static void promise26TwentyMondays() {
        due("26 Wednesday, the 20th", Checks.court(feathers(8, 1, "law fly 8*(day>=140);"), 2).empties(0), 20);
        due("26 Wednesday, the 21st", Checks.court(feathers(8, 1, "law fly 8*(day>=141);"), 2).empties(0), -2);
        due("26 Monday, the 20th", Checks.court(feathers(8, 1, "law fly 8*(day>=140);"), 7).empties(0), 20);
        due("26 Monday, the 21st", Checks.court(feathers(8, 1, "law fly 8*(day>=141);"), 7).empties(0), -2);
        due("26 Tuesday, the 20th", Checks.court(feathers(8, 1, "law fly 8*(day>=147);"), 8).empties(0), 20);
        due("26 Tuesday, the 21st", Checks.court(feathers(8, 1, "law fly 8*(day>=148);"), 8).empties(0), -2);
        due("26 one is left for good", Checks.court(feathers(8, 1, "law fly plump-1;"), 2).empties(0), -2);
        due("26 more comes meanwhile", Checks.court(feathers(1, 1, "cause z a 7 1;cause y a 14 1;"), 2).empties(0), 3);
    }

    // 26: "if it is AIRED on each (KEPT IN or not ..)".
    private static void promise26KeptInOrNot() {
        CushionCourt court = Checks.court(judges(2) + CONTRARY + "cause p a 1 1;cause q a 1 1;", 2);
        court.keepIn(0, true);
        due("26 kept in", court.empties(0), 2);
        court.exchange(0, 1);
        due("26 the cushion that it has now", court.empties(1), 2);
        due("26 the other one", court.empties(0), 0);
    }

    // 29: "n 1 .. 99 at most"; "NONE: no such ones".
    private static void promise29NoSuchOnes() {
        CushionCourt court = Checks.court(feathers(1, 0, "clerk k 1 9;clerk l 1 9;"));
        int[] wrongDays = {0, 100, -1, LEAST, MOST};
        for (int n : wrongDays) {
            due("29 n " + n, court.learns(0, n), -1);
        }
        due("29 n 1", court.learns(0, 1), 1);
        due("29 n 99", court.learns(1, 99), 1);
        int[] wrongClerks = {-1, 2, LEAST, MOST};
        for (int clerk : wrongClerks) {
            due("29 no such clerk " + clerk, court.learns(clerk, 1), -1);
        }
        due("29 of none", new CushionCourt().learns(0, 1), -1);
    }

    // 29: "(1: today)".
    private static void promise29Today() {
        String text = feathers(1, 1, "clerk k 1 9;");
        due("29 Monday: today", Checks.court(text, 7).learns(0, 1), 1);
        due("29 Sunday: not today", Checks.court(text, 6).learns(0, 1), -2);
        due("29 Sunday: tomorrow", Checks.court(text, 6).learns(0, 2), 2);
    }

    // 29: "-2: not by then".
    private static void promise29NotByThen() {
        CushionCourt court = Checks.court(feathers(1, 98, "clerk k 1 9;clerk l 126 9;"));
        due("29 on the 99th day", court.learns(0, 99), 99);
        due("29 not by the 98th", court.learns(0, 98), -2);
        due("29 never", court.learns(1, 99), -2);
        CushionCourt late = Checks.court(feathers(1, 99, "clerk k 1 9;"));
        due("29 behind the 99th day", late.learns(0, 99), -2);
        late.days(7);
        due("29 on DAY 105", late.learns(0, 99), 99);
    }

    // 29: "a CLERK knows a CASE more first".
    private static void promise29KnowsMore() {
        CushionCourt court = Checks.court(feathers(2, 1, "clerk k 1 9;clerk l 1 0;"), 8);
        due("29 knows one", court.knows(0), 2);
        due("29 one more in a week", court.learns(0, 99), 7);
        due("29 the first one of another", court.learns(1, 99), 7);
        court.days(7);
        due("29 no more", court.learns(0, 99), -2);
    }

    // 30: "in n DAYS 0 .. 99"; "NONE: no such ones".
    private static void promise30NoSuchOnes() {
        CushionCourt court = Checks.court(judges(2));
        for (int wrong : WRONG_SPANS) {
            due("30 n " + wrong, court.plump(0, wrong), -1);
        }
        due("30 n 0", court.plump(0, 0), 0);
        due("30 n 99", court.plump(1, 99), 0);
        int[] wrongJudges = {-1, 2, LEAST, MOST};
        for (int judge : wrongJudges) {
            due("30 no such judge " + judge, court.plump(judge, 0), -1);
        }
        due("30 of none", new CushionCourt().plump(0, 0), -1);
    }

    // 30: the last of n DAYS counts, the next one doesn't; eight at most.
    private static void promise30Days() {
        CushionCourt court = Checks.court(feathers(8, 1, "beat 0;cause z a 98 1;"));
        due("30 no day", court.plump(0, 0), 0);
        due("30 one day", court.plump(0, 1), 0);
        due("30 two days", court.plump(0, 2), 8);
        due("30 99 days: a ninth", court.plump(0, 99), 8);
        CushionCourt late = Checks.court(feathers(1, 98, "beat 0;"));
        due("30 98 days", late.plump(0, 98), 0);
        due("30 99 days", late.plump(0, 99), 1);
        CushionCourt aired = Checks.court(feathers(2, 1, ""), 2);
        due("30 up to the Monday", aired.plump(0, 5), 2);
        due("30 with the Monday", aired.plump(0, 6), 1);
    }

    // 30: "the CUSHION that a JUDGE has now".
    private static void promise30TheCushionThatItHasNow() {
        CushionCourt court = Checks.court(judges(2) + CONTRARY + "beat 0;cause p a 1 1;cause q a 3 1;", 2);
        court.exchange(0, 1);
        due("30 the first has the other's", court.plump(0, 0), 0);
        due("30 and more goes into that", court.plump(0, 2), 1);
        due("30 the other has the first's", court.plump(1, 2), 1);
    }

    // 36: "NONE: no such JUDGE".
    private static void promise36NoSuchJudge() {
        CushionCourt court = Checks.court(judges(2));
        due("36 the last judge", court.leans(1), 1023);
        int[] wrong = {-1, 2, LEAST, MOST};
        for (int judge : wrong) {
            due("36 no such judge " + judge, court.leans(judge), -1);
        }
        due("36 of none", new CushionCourt().leans(0), -1);
    }

    // 36: "all CASES it heard so far": none yet, so each one would do.
    private static void promise36NothingHeard() {
        CushionCourt court = Checks.court(judges(2) + "cause p a 1 45;", 1);
        due("36 nothing heard", court.leans(0), 1023);
        court.days(1);
        due("36 one heard", court.leans(0), 0b1111100000);
        due("36 nothing heard by another", court.leans(1), 1023);
    }

    // 36: "tens 0, 10, .. 90 (bits 0 .. 9)", without laws: GRAVE is above LEAN.
    private static void promise36Tens() {
        for (int grave = 0; grave <= 99; grave++) {
            int above = 0;
            for (int i = 0; i < 10; i++) {
                above |= grave > 10 * i ? 1 << i : 0;
            }
            due("36 by GRAVE " + grave, Checks.court("judge a 50 0;cause p a 0 " + grave + ";", 1).leans(0),
                    grave > 50 ? above : 1023 & ~above);
        }
    }

    // 36: the same of one who is stiff: how far GRAVE is from LEAN is below 10.
    private static void promise36Near() {
        due("36 near, 49", Checks.court("judge a 50 5;cause p a 0 49;", 1).leans(0), 0b0000111111);
        due("36 near, 50", Checks.court("judge a 50 5;cause p a 0 50;", 1).leans(0), 0b0000111111);
        due("36 near, 51", Checks.court("judge a 50 5;cause p a 0 51;", 1).leans(0), 0b0001111111);
        due("36 far, 40", Checks.court("judge a 50 5;cause p a 0 40;", 1).leans(0), 0b1111100000);
        due("36 near, 41", Checks.court("judge a 50 5;cause p a 0 41;", 1).leans(0), 0b0000111111);
        due("36 not stiff, 41", Checks.court("judge a 50 4;cause p a 0 41;", 1).leans(0), 0b1111100000);
    }

    // 36: none of the tens, the first alone, the last alone.
    private static void promise36NoneFits() {
        due("36 none", Checks.court("judge a 55 0;law say lean=55;cause p a 0 1;", 1).leans(0), 0);
        due("36 the first", Checks.court("judge a 0 0;law say lean=0;cause p a 0 1;", 1).leans(0), 1);
        due("36 the last", Checks.court("judge a 90 0;law say lean=90;cause p a 0 1;", 1).leans(0), 512);
        due("36 no eleventh", Checks.court("judge a 99 0;law say lean>90;cause p a 0 1;", 1).leans(0), 0);
        due("36 all of ten cases", Checks.court("judge a 50 0;" + cases("a", 10, 0), 1).leans(0), 0b1111111110);
        due("36 all of two cases", Checks.court("judge a 50 0;cause p a 0 45;cause q a 0 55;", 1).leans(0), 0b100000);
    }

    // 36: "(each with DAMP and day of its DAY, plump 0)".
    private static void promise36DampDayAndPlump() {
        String text = "judge a 50 0;damp 3;damp 4;law think 0;beat 0;";
        due("36 damp of its day", Checks.court(text + "law say moist=4;cause p a 1 1;", 9).leans(0), 1023);
        due("36 day of its day", Checks.court(text + "law say day=1;cause p a 1 1;", 9).leans(0), 1023);
        due("36 plump 0", Checks.court(text + "law say plump=0;cause p a 1 1;", 9).leans(0), 1023);
        due("36 plump wasn't 0", Checks.court(text + "law say plump=0;cause p a 1 1;cause q a 2 1;", 9).leans(0), 0);
    }

    // 37: "a seed 0 .. 2147483647 ..; n 1 .. 99 DAYS ..) so many 0 .. 99"; "NONE: no such ones".
    private static void promise37NoSuchOnes() {
        CushionCourt court = Checks.court(feathers(1, 0, ""));
        String before = Checks.state(court);
        due("37 seed 0", court.chance(0, 1, 1), 10);
        due("37 seed 2147483647", court.chance(MOST, 1, 1), 10);
        due("37 seed -1", court.chance(-1, 1, 1), -1);
        due("37 least seed", court.chance(LEAST, 1, 1), -1);
        int[] wrongDays = {0, 100, -1, LEAST, MOST};
        for (int n : wrongDays) {
            due("37 n " + n, court.chance(1, n, 1), -1);
        }
        due("37 n 1", court.chance(1, 1, 1), 10);
        due("37 n 99", court.chance(1, 99, 1), 10);
        for (int out : WRONG_SPANS) {
            due("37 out " + out, court.chance(1, 1, out), -1);
        }
        due("37 out 0", court.chance(1, 1, 0), 10);
        due("37 out 99", court.chance(1, 99, 99), 0);
        CHECKS.same("37 asking lets no day go by", Checks.state(court), before);
    }

    // 37: "so many .. at least get OUT": more than now.
    private static void promise37AtLeast() {
        CushionCourt court = Checks.court(feathers(8, 1, "law fly 4;"), 8);
        due("37 four are out now", court.count(8), 4);
        due("37 none more is enough", court.chance(1, 6, 0), 10);
        due("37 one more isn't out by then", court.chance(1, 6, 1), 0);
        due("37 four more", court.chance(1, 7, 4), 10);
        due("37 five more", court.chance(1, 7, 5), 0);
        due("37 five more later", court.chance(1, 99, 5), 0);
        due("37 of none", new CushionCourt().chance(1, 1, 1), 0);
    }

    // 37: "Numbers are the last one (at first the seed) times 1103515245 and 12345, without what is above 31 bits,
    // by 65536": from 1 on these are 16838, 5758, 10113, 17515, 31051, 5627, 23010, 7419, 16212, 4086.
    private static void promise37Numbers() {
        int[] times = {1, 1, 1, 1, 0, 1, 1, 1, 2, 1};
        for (int damp = 0; damp <= 9; damp++) {
            CushionCourt court = Checks.court(feathers(1, 1, "law fly moist=" + damp + ";"), 7);
            due("37 damp " + damp, court.chance(1, 1, 1), times[damp]);
        }
        due("37 no damp of 10", Checks.court(feathers(1, 1, "law fly moist>9;"), 7).chance(1, 99, 1), 0);
        due("37 no damp below 0", Checks.court(feathers(1, 1, "law fly moist<0;"), 7).chance(MOST, 99, 1), 0);
        due("37 the told damp is of no account", Checks.court(feathers(1, 1, "damp 4;law fly moist=4;"), 7)
                .chance(1, 1, 1), 0);
    }

    // 37: the same from many seeds on, the least and the greatest among them.
    private static void promise37Seeds() {
        int[] seeds = {0, 1, 2, 65535, 65536, 12345, 1103515245, 1073741823, 1073741824, MOST - 1, MOST};
        for (int damp = 0; damp <= 9; damp++) {
            CushionCourt court = Checks.court(feathers(1, 1, "law fly moist=" + damp + ";"), 7);
            for (int seed : seeds) {
                int times = 0;
                BigInteger last = BigInteger.valueOf(seed);
                for (int i = 0; i < 10; i++) {
                    last = last.multiply(BigInteger.valueOf(1103515245)).add(BigInteger.valueOf(12345));
                    last = last.mod(BigInteger.ONE.shiftLeft(31));
                    times += last.intValue() / 65536 % 10 == damp ? 1 : 0;
                }
                due("37 seed " + seed + ", damp " + damp, court.chance(seed, 1, 1), times);
            }
        }
    }

    // 37: "numbers .. one behind another": from 1 on the second of each two, then 2749, 12767, 9084, 12060, 32225,
    // 17543, 25089, 21183, 25137, 25566.
    private static void promise37OneBehindAnother() {
        int[] times = {1, 0, 0, 2, 0, 1, 2, 2, 1, 1};
        for (int damp = 0; damp <= 9; damp++) {
            CushionCourt court = Checks.court(feathers(1, 1, "law fly moist=" + damp + ";"), 6);
            due("37 second damp " + damp, court.chance(1, 2, 1), times[damp]);
            due("37 no Monday, damp " + damp, court.chance(1, 1, 1), 0);
        }
    }

    // 38: "(n 0 .. 99); NONE: no such ones".
    private static void promise38NoSuchOnes() {
        CushionCourt court = Checks.court(feathers(1, 0, ""));
        String before = Checks.state(court);
        for (int what = 0; what <= 4; what++) {
            for (int wrong : WRONG_SPANS) {
                due("38 n " + wrong + ", what " + what, court.tried(what, 0, wrong), -1);
            }
            due("38 n 0, what " + what, court.tried(what, 0, 0), 0);
            due("38 n 99, what " + what, court.tried(what, 0, 99), what == 2 || what == 3 ? 0 : 1);
        }
        int[] wrongWhats = {-1, 5, LEAST, MOST};
        for (int what : wrongWhats) {
            due("38 what " + what, court.tried(what, 0, 9), -1);
        }
        CHECKS.same("38 asking lets no day go by", Checks.state(court), before);
    }

    // 38: "(i 0 of all but 2)".
    private static void promise38NoSuchJudge() {
        CushionCourt court = Checks.court(judges(3));
        int[] wrong = {-1, 1, 2, LEAST, MOST};
        for (int what = 0; what <= 4; what++) {
            for (int i : wrong) {
                if (what != 2) {
                    due("38 i " + i + ", what " + what, court.tried(what, i, 9), -1);
                }
            }
            due("38 i 0, what " + what, court.tried(what, 0, 9), 0);
        }
        due("38 the last judge", court.tried(2, 2, 9), 0);
        due("38 behind the last judge", court.tried(2, 3, 9), -1);
        due("38 judge -1", court.tried(2, -1, 9), -1);
        due("38 least judge", court.tried(2, LEAST, 9), -1);
        due("38 most judge", court.tried(2, MOST, 9), -1);
        due("38 i 0 without judges", new CushionCourt().tried(0, 0, 9), 0);
        due("38 judge 0 without judges", new CushionCourt().tried(2, 0, 9), -1);
    }

    // 38: the last of n DAYS counts, the next one doesn't; more than now.
    private static void promise38Days() {
        CushionCourt court = Checks.court(feathers(3, 1, ""), 8);
        due("38 one is out now", court.count(8), 1);
        for (int what = 0; what <= 3; what++) {
            due("38 up to the Monday, what " + what, court.tried(what, 0, 6), 0);
            due("38 with the Monday, what " + what, court.tried(what, 0, 7), 1);
        }
        due("38 up to the Monday, beat 9", court.tried(4, 0, 6), 0);
        due("38 with the Monday, beat 9", court.tried(4, 0, 7), 2);
    }

    // 38: each of the five, where it makes the difference and where it makes none.
    private static void promise38Otherwise() {
        CushionCourt kept = Checks.court(judges(5) + CONTRARY + "cause p a 1 1;cause q e 1 1;", 2);
        kept.keepIn(0, true);
        kept.keepIn(4, true);
        due("38 kept in", kept.ahead(6, 3), 0);
        due("38 none is kept in", kept.tried(0, 0, 6), 2);
        due("38 without damp it is kept in still", kept.tried(1, 0, 6), 0);
        due("38 beaten hard it is kept in still", kept.tried(4, 0, 6), 0);
        for (int damp = 0; damp <= 9; damp++) {
            CushionCourt damped = Checks.court(feathers(8, 1, "damp " + damp + ";"), 2);
            due("38 no damp in place of " + damp, damped.tried(1, 0, 6), 1);
            due("38 damp as told, " + damp, damped.tried(0, 0, 6), 1 + damp / 3);
            due("38 beat 9 and damp " + damp, damped.tried(4, 0, 6), 8);
        }
        CushionCourt dry = Checks.court(feathers(8, 1, "damp 5;law fly 2+moist;"), 2);
        due("38 no damp in a law", dry.tried(1, 0, 6), 2);
        due("38 damp in a law", dry.tried(4, 0, 6), 7);
        CushionCourt two = Checks.court(judges(2) + CONTRARY + "cause p a 1 1;cause q b 1 1;cause r b 2 1;beat 2;");
        due("38 the first hears nothing", two.tried(2, 0, 8), 2);
        due("38 the last hears nothing", two.tried(2, 1, 8), 1);
        due("38 all say what they think", two.tried(3, 0, 8), 0);
        two.days(2);
        due("38 hearing nothing, what was heard counts", two.tried(2, 1, 6), 2);
        due("38 from now on all say what they think", two.tried(3, 0, 6), 2);
    }
}
