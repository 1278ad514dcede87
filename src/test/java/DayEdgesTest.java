/**
 * Boundary cases of a DAY (Terms, ==== 2; promise 16) and of promises 6 to 9 and 28, which tell what came of it: a
 * method for each sentence or part of one, which stands above it as a remark.
 */
public final class DayEdgesTest {
    private static final Checks CHECKS = new Checks();
    private static final int LEAST = Integer.MIN_VALUE;
    private static final int MOST = Integer.MAX_VALUE;
    private static final String CONTRARY = "law say not(grave>lean);";

    public static void main(String[] args) {
        caseOfThisDay();
        firstAndLastDayOfCases();
        thoughtAboveLean();
        saidByStiff();
        saidByNearness();
        featherIfNotAsThought();
        eightFeathers();
        eightFeathersOfTheLastOne();
        roomAgain();
        mondaysOfTheWeek();
        heardAheadOfTheAiring();
        farMonday();
        keptIn();
        flyFromNoneToEight();
        flyWithAnError();
        beatAndDamp();
        dampOfThisDay();
        noMoreThanItHas();
        passOnMondays();
        earsAndFeathersBelow();
        earsOfTheTop();
        knownFromThenOn();
        promise6NoSuchCase();
        promise6NoSuchWhat();
        promise6BothWrong();
        promise6NotHeardYet();
        promise6Feathers();
        promise7NoSuchOnes();
        promise8NotSoMany();
        promise8NoSuchJudge();
        promise9NoSuchClerk();
        promise28NoSuchCase();
        promise28Bits();
        promise16Numbers();
        promise16Behind9900();
        promise16JustBehind9900();
        CHECKS.end("DayEdgesTest");
    }

    private static void due(String what, long got, long want) {
        CHECKS.due(what, got, want);
    }

    /** One judge, and so many cases on a DAY, each of which leaves a feather. */
    private static String feathers(int many, int day, String more) {
        StringBuilder text = new StringBuilder("judge a 50 0;" + CONTRARY);
        for (char name = 'a'; name < 'a' + many; name++) {
            text.append("cause ").append(name).append(" a ").append(day).append(" 10;");
        }
        return text.append(more).toString();
    }

    // "each CASE of this DAY is heard": neither ahead of it nor behind it.
    private static void caseOfThisDay() {
        CushionCourt court = Checks.court("judge a 50 0;cause p a 4 60;cause q a 5 60;", 4);
        due("16 the day ahead", court.count(5), 0);
        court.days(1);
        due("16 its day", Checks.cause(court, 0, 4), 1);
        due("16 the next one's day", Checks.cause(court, 1, 4), -1);
        court.days(1);
        due("16 both", court.count(5), 2);
        court.days(99);
        due("16 heard just once", court.judge(0, 5), 2);
    }

    // "on a DAY 0 .. 99".
    private static void firstAndLastDayOfCases() {
        CushionCourt court = Checks.court("judge a 50 0;cause p a 0 60;cause q a 99 60;");
        due("16 no day yet", court.count(5), 0);
        court.days(1);
        due("16 DAY 0", court.count(5), 1);
        court.days(98);
        due("16 ahead of DAY 99", court.count(5), 1);
        court.days(1);
        due("16 DAY 99", court.count(5), 2);
    }

    private static void verdict(String what, String text, int thought, int said) {
        CushionCourt court = Checks.court(text, 2);
        due(what + ", thought", Checks.cause(court, 0, 3), thought);
        due(what + ", said", Checks.cause(court, 0, 4), said);
        due(what + ", feathers", court.judge(0, 3), thought == said ? 0 : 1);
    }

    // "(GRAVE is above LEAN, without ..)".
    private static void thoughtAboveLean() {
        verdict("16 GRAVE below LEAN", "judge a 50 0;cause p a 1 49;", 0, 0);
        verdict("16 GRAVE as LEAN", "judge a 50 0;cause p a 1 50;", 0, 0);
        verdict("16 GRAVE above LEAN", "judge a 50 0;cause p a 1 51;", 1, 1);
        verdict("16 both 0", "judge a 0 0;cause p a 1 0;", 0, 0);
        verdict("16 1 above 0", "judge a 0 0;cause p a 1 1;", 1, 1);
        verdict("16 both 99", "judge a 99 0;cause p a 1 99;", 0, 0);
        verdict("16 99 above 98", "judge a 98 0;cause p a 1 99;", 1, 1);
    }

    // "but if STIFF is 5 at least ..: guilty".
    private static void saidByStiff() {
        for (int stiff = 0; stiff <= 9; stiff++) {
            verdict("16 STIFF " + stiff, "judge a 50 " + stiff + ";cause p a 1 45;", 0, stiff >= 5 ? 1 : 0);
        }
    }

    // "how far GRAVE is from LEAN is below 10: guilty", on both sides of LEAN.
    private static void saidByNearness() {
        for (int far = 0; far <= 12; far++) {
            int near = far < 10 ? 1 : 0;
            verdict("16 below by " + far, "judge a 50 5;cause p a 1 " + (50 - far) + ";", 0, near);
            String law = "judge a 50 5;law think 0;cause p a 1 ";
            verdict("16 below by " + far + " with a law", law + (50 - far) + ";", 0, near);
            verdict("16 above by " + far + " with a law", law + (50 + far) + ";", 0, near);
            verdict("16 below, thought guilty", "judge a 50 5;law think 1;cause p a 1 " + (50 - far) + ";", 1, 1);
        }
    }

    // "If SAID isn't as THOUGHT, a FEATHER goes on top of the CUSHION that the JUDGE has then".
    private static void featherIfNotAsThought() {
        verdict("16 said as thought, guilty", "judge a 50 0;law think 1;law say 1;cause p a 1 1;", 1, 1);
        verdict("16 said as thought, not guilty", "judge a 50 0;law think 0;law say 0;cause p a 1 1;", 0, 0);
        verdict("16 guilty as thought alone", "judge a 50 0;law think 1;law say 0;cause p a 1 1;", 1, 0);
        verdict("16 guilty as said alone", "judge a 50 0;law think 0;law say 1;cause p a 1 1;", 0, 1);
        verdict("16 both guilty by other values", "judge a 50 0;law think 2;law say 0-1;cause p a 1 1;", 1, 1);
        CushionCourt court = Checks.court("judge b 50 0;" + feathers(2, 1, "cause z a 2 10;"), 2);
        court.exchange(0, 1);
        court.days(1);
        due("16 into the cushion that it has then", court.judge(1, 3), 1);
        due("16 its old one stays", court.judge(0, 3), 2);
    }

    // "a row of at most 8 FEATHERS"; "of nine the lowest one is LOST".
    private static void eightFeathers() {
        for (int many = 0; many <= 10; many++) {
            CushionCourt court = Checks.court(feathers(many, 1, ""), 2);
            int lost = Math.max(0, many - 8);
            due("16 feathers of " + many, court.judge(0, 3), Math.min(8, many));
            due("16 lost of " + many, court.count(9), lost);
            due("16 in cushions of " + many, court.count(7), Math.min(8, many));
            due("16 the lowest of " + many, court.feather(0, 0), many == 0 ? -2 : lost);
            due("16 the eighth of " + many, court.feather(0, 7), many < 8 ? -2 : many - 1);
            for (int i = 0; i < many; i++) {
                due("16 fate of " + i + " of " + many, Checks.cause(court, i, 5), i < lost ? 3 : 1);
            }
        }
    }

    // The same in the last one of five cushions, and in two next to each other.
    private static void eightFeathersOfTheLastOne() {
        String judges = "judge b 50 0;judge c 50 0;judge d 50 0;judge e 50 0;";
        CushionCourt last = Checks.court(judges + feathers(10, 1, ""), 2);
        due("16 the fifth cushion", last.judge(4, 3), 8);
        due("16 the lowest of the fifth", last.feather(4, 0), 2);
        due("16 the top of the fifth", last.feather(4, 7), 9);
        CushionCourt next = Checks.court(judges + feathers(9, 1, "cause z e 0 1;beat 0;"), 2);
        next.exchange(3, 4);
        due("16 nine in the fifth", next.judge(3, 3), 8);
        due("16 one in the fourth", next.feather(4, 0), 9);
        due("16 one in the fourth alone", next.feather(4, 1), -2);
    }

    // The same, if one got out ahead of the ninth: then there is room for it.
    private static void roomAgain() {
        CushionCourt court = Checks.court(feathers(8, 1, "cause i a 7 10;cause j a 8 10;"), 7);
        due("16 eight", court.judge(0, 3), 8);
        court.days(1);
        due("16 the ninth comes ahead of the airing: one is lost", court.count(9), 1);
        due("16 and one is out", court.count(8), 1);
        court.days(1);
        due("16 room for another", court.judge(0, 3), 8);
        due("16 none more is lost", court.count(9), 1);
    }

    // "DAY modulo 7 is that of the week, 0 Monday"; "(2) on a Monday".
    private static void mondaysOfTheWeek() {
        for (int day = 0; day <= 15; day++) {
            CushionCourt court = Checks.court(feathers(1, day, ""));
            int monday = (day + 6) / 7 * 7;
            court.days(monday);
            due("16 told on " + day + ", ahead of the Monday", court.count(8), 0);
            court.days(1);
            due("16 told on " + day + ", behind the Monday", court.count(8), 1);
        }
    }

    // (1) comes ahead of (2) on one DAY.
    private static void heardAheadOfTheAiring() {
        CushionCourt court = Checks.court(feathers(1, 7, "clerk k 1 0;"), 7);
        due("16 nothing yet", court.count(7) + court.count(8), 0);
        court.days(1);
        due("16 out on the day on which it went down", court.count(8), 1);
        due("16 and heard", court.knows(0), 1);
    }

    // The last Monday that there is (DAY 9898), with DAMP of that DAY.
    private static void farMonday() {
        CushionCourt court = Checks.court(feathers(3, 1, "beat 0;damp 0;damp 9;damp 0;damp 5;damp 4;"));
        court.keepIn(0, true);
        for (int i = 0; i < 99; i++) {
            court.days(99);
        }
        court.days(96);
        due("16 a Sunday", court.count(4), 9897);
        court.keepIn(0, false);
        court.days(1);
        due("16 nothing on a Sunday", court.count(8), 0);
        due("16 damp of the last Monday", court.damp(9898), 5);
        court.days(1);
        due("16 the last Monday", court.count(8), 1);
    }

    // "each CUSHION that isn't KEPT IN is AIRED".
    private static void keptIn() {
        CushionCourt court = Checks.court("judge b 50 0;cause z b 1 10;" + feathers(1, 1, ""), 7);
        court.keepIn(1, true);
        court.days(1);
        due("16 the one that isn't", court.judge(0, 3), 0);
        due("16 the one that is", court.judge(1, 3), 1);
        court.keepIn(1, false);
        court.days(6);
        due("16 no more, but no Monday", court.judge(1, 3), 1);
        court.days(1);
        due("16 no more, and a Monday", court.judge(1, 3), 0);
    }

    // "as many FEATHERS as E of fly (0 .. 8 ..) get OUT".
    private static void flyFromNoneToEight() {
        for (int value = -3; value <= 12; value++) {
            String law = value < 0 ? "0-" + -value : Integer.toString(value);
            CushionCourt court = Checks.court(feathers(8, 1, "beat 5;law fly " + law + ";"), 8);
            due("16 out by " + law, court.count(8), Math.max(0, Math.min(8, value)));
        }
        due("16 out by the farthest", Checks.court(feathers(8, 1, "law fly 1000*1000*1000*1000;"), 8).count(8), 8);
        due("16 out by the farthest below",
                Checks.court(feathers(8, 1, "law fly 0-1000*1000*1000*1000;"), 8).count(8), 0);
        due("16 out by 2 to the 32", Checks.court(feathers(8, 1, "law fly 256*256*256*256;"), 8).count(8), 8);
        due("16 out by 2 to the 31", Checks.court(feathers(8, 1, "law fly 256*256*256*128;"), 8).count(8), 8);
    }

    // "beat and DAMP of this DAY by 3, cut, without, with an ERROR".
    private static void flyWithAnError() {
        due("16 without", Checks.court(feathers(8, 1, "beat 2;damp 7;"), 8).count(8), 4);
        due("16 with an error", Checks.court(feathers(8, 1, "beat 2;damp 7;law fly 8/(plump-8);"), 8).count(8), 4);
        due("16 with none", Checks.court(feathers(8, 1, "beat 2;damp 7;law fly 8/(plump-7);"), 8).count(8), 8);
        due("16 with an error above",
                Checks.court(feathers(8, 1, "beat 2;damp 7;law fly 1000*1000*1000*1000+1;"), 8).count(8), 4);
        due("16 with an error below",
                Checks.court(feathers(8, 1, "beat 2;damp 7;law fly 0-1000*1000*1000*1000-1;"), 8).count(8), 4);
    }

    // "beat: 0 .. 9 .. (1 without)"; "beat and DAMP of this DAY by 3, cut".
    private static void beatAndDamp() {
        for (int damp = 0; damp <= 9; damp++) {
            for (int beat = 0; beat <= 9; beat++) {
                CushionCourt court = Checks.court(feathers(8, 1, "beat " + beat + ";damp " + damp + ";"), 8);
                due("16 beat " + beat + " and damp " + damp, court.count(8), Math.min(8, beat + damp / 3));
            }
            due("16 no beat and damp " + damp, Checks.court(feathers(8, 1, "damp " + damp + ";"), 8).count(8),
                    1 + damp / 3);
        }
        due("16 neither", Checks.court(feathers(8, 1, ""), 8).count(8), 1);
    }

    // "of DAY 0 on, and again from the first one on": DAY 7 has the last one of eight, DAY 14 the seventh again.
    private static void dampOfThisDay() {
        CushionCourt court = Checks.court(feathers(8, 1, "beat 0;" + Checks.times("damp 0;", 7) + "damp 9;"), 8);
        due("16 the last one of eight", court.count(8), 3);
        court.days(7);
        due("16 the seventh one", court.count(8), 3);
        CushionCourt seven = Checks.court(feathers(8, 1, "beat 0;damp 9;" + Checks.times("damp 0;", 6)), 8);
        due("16 the first one of seven again", seven.count(8), 3);
    }

    // "get OUT, from the top, no more than it has".
    private static void noMoreThanItHas() {
        for (int many = 0; many <= 4; many++) {
            CushionCourt court = Checks.court(feathers(many, 1, "beat 2;"), 8);
            due("16 two of " + many + " out", court.count(8), Math.min(2, many));
            due("16 left of " + many, court.judge(0, 3), Math.max(0, many - 2));
            for (int i = 0; i < many; i++) {
                due("16 from the top, fate of " + i + " of " + many, Checks.cause(court, i, 5), i >= many - 2 ? 2 : 1);
            }
        }
    }

    // "CLERKS who pass on this DAY of the week": bit 0 of 0 .. 127 is Monday.
    private static void passOnMondays() {
        int[] days = {0, 1, 2, 3, 64, 65, 126, 127};
        for (int day : days) {
            CushionCourt court = Checks.court(feathers(1, 1, "clerk k " + day + " 9;"), 8);
            due("16 passes on " + day, court.knows(0), day % 2);
        }
        due("16 nobody passes", Checks.court(feathers(1, 1, ""), 8).gossip(0), 0);
    }

    // "whose EARS are at least how many FEATHERS lay below it".
    private static void earsAndFeathersBelow() {
        for (int ears = 0; ears <= 9; ears++) {
            CushionCourt court = Checks.court(feathers(8, 1, "beat 9;clerk k 1 " + ears + ";"), 8);
            due("16 eight out, ears " + ears, court.knows(0), (1 << Math.min(8, ears + 1)) - 1);
        }
    }

    // The same of the top alone, below which all others lie, and of a lowest one.
    private static void earsOfTheTop() {
        for (int many = 1; many <= 8; many++) {
            CushionCourt court = Checks.court(feathers(many, 1, "clerk k 1 " + (many - 1) + ";clerk l 1 "
                    + Math.max(0, many - 2) + ";"), 8);
            due("16 as many below as ears", court.knows(0), 1 << many - 1);
            due("16 one more below than ears", court.knows(1), many == 1 ? 1 : 0);
        }
    }

    // "they know the CASE's THOUGHT from then on".
    private static void knownFromThenOn() {
        CushionCourt court = Checks.court(feathers(2, 1, "clerk k 1 9;"), 7);
        due("9 not ahead", court.knows(0), 0);
        court.days(1);
        due("9 from then on", court.knows(0), 2);
        court.days(6);
        due("9 to the next Monday", court.knows(0), 2);
        court.days(1);
        due("9 and the other one", court.knows(0), 3);
        court.restuff(0);
        court.days(99);
        due("9 for good", court.knows(0), 3);
    }

    // 6: "IndexOutOfBoundsException: no such CASE".
    private static void promise6NoSuchCase() {
        CushionCourt court = Checks.court("judge a 50 0;judge b 50 0;judge c 50 0;cause p b 3 4;cause q c 5 6;");
        due("6 case 0", Checks.cause(court, 0, 0), 1);
        due("6 case -1", Checks.cause(court, -1, 0), Checks.THROWS_BOUNDS);
        due("6 the last case", Checks.cause(court, 1, 2), 6);
        due("6 behind the last case", Checks.cause(court, 2, 0), Checks.THROWS_BOUNDS);
        due("6 least case", Checks.cause(court, LEAST, 0), Checks.THROWS_BOUNDS);
        due("6 most case", Checks.cause(court, MOST, 0), Checks.THROWS_BOUNDS);
        due("6 no cases at all", Checks.cause(new CushionCourt(), 0, 0), Checks.THROWS_BOUNDS);
        CushionCourt ten = Checks.court(feathers(10, 3, ""));
        due("6 the tenth case", Checks.cause(ten, 9, 1), 3);
        due("6 no eleventh", Checks.cause(ten, 10, 1), Checks.THROWS_BOUNDS);
    }

    // 6: "NoSuchElementException: no such what".
    private static void promise6NoSuchWhat() {
        CushionCourt court = Checks.court("judge a 50 0;judge b 50 0;cause p b 3 4;");
        due("6 what 0", Checks.cause(court, 0, 0), 1);
        due("6 what -1", Checks.cause(court, 0, -1), Checks.THROWS_NO_SUCH);
        due("6 what 5", Checks.cause(court, 0, 5), 0);
        due("6 what 6", Checks.cause(court, 0, 6), Checks.THROWS_NO_SUCH);
        due("6 least what", Checks.cause(court, 0, LEAST), Checks.THROWS_NO_SUCH);
        due("6 most what", Checks.cause(court, 0, MOST), Checks.THROWS_NO_SUCH);
    }

    // 6: both are wrong: the one that is told first.
    private static void promise6BothWrong() {
        CushionCourt court = Checks.court("judge a 50 0;cause p a 3 4;");
        due("6 both above", Checks.cause(court, 1, 6), Checks.THROWS_BOUNDS);
        due("6 both below", Checks.cause(court, -1, -1), Checks.THROWS_BOUNDS);
        due("6 both wrong of none", Checks.cause(new CushionCourt(), 0, 6), Checks.THROWS_BOUNDS);
    }

    // 6: "(1 guilty, 0 not, NONE not heard yet)".
    private static void promise6NotHeardYet() {
        CushionCourt court = Checks.court("judge a 50 0;cause p a 1 60;cause q a 1 40;cause r a 2 60;", 1);
        for (int i = 0; i < 3; i++) {
            due("6 thought, not heard yet", Checks.cause(court, i, 3), -1);
            due("6 said, not heard yet", Checks.cause(court, i, 4), -1);
        }
        court.days(1);
        due("6 thought guilty", Checks.cause(court, 0, 3), 1);
        due("6 thought not", Checks.cause(court, 1, 3), 0);
        due("6 thought, still not heard", Checks.cause(court, 2, 3), -1);
        due("6 said guilty", Checks.cause(court, 0, 4), 1);
        due("6 said not", Checks.cause(court, 1, 4), 0);
        due("6 said, still not heard", Checks.cause(court, 2, 4), -1);
    }

    // 6: "5: 0 no FEATHER, 1 in a CUSHION, 2 OUT, 3 LOST".
    private static void promise6Feathers() {
        CushionCourt court = Checks.court(feathers(2, 1, ""), 1);
        due("6 no feather yet", Checks.cause(court, 1, 5), 0);
        court.days(6);
        due("6 in a cushion", Checks.cause(court, 1, 5), 1);
        court.days(1);
        due("6 out", Checks.cause(court, 1, 5), 2);
        due("6 in a cushion still", Checks.cause(court, 0, 5), 1);
        court.restuff(0);
        due("6 lost", Checks.cause(court, 0, 5), 3);
        due("6 out for good", Checks.cause(court, 1, 5), 2);
        due("6 no feather at all", Checks.cause(Checks.court("judge a 50 0;cause p a 1 1;", 2), 0, 5), 0);
    }

    // 7: "NONE: no such ones".
    private static void promise7NoSuchOnes() {
        CushionCourt court =
                Checks.court("judge a 11 1;judge b 22 2;judge c 33 3;judge d 44 4;judge e 55 5;cause p e 0 1;", 1);
        due("7 judge 0", court.judge(0, 0), 11);
        due("7 judge -1", court.judge(-1, 0), -1);
        due("7 the fifth judge", court.judge(4, 0), 55);
        due("7 no sixth", court.judge(5, 0), -1);
        due("7 least judge", court.judge(LEAST, 0), -1);
        due("7 most judge", court.judge(MOST, 0), -1);
        due("7 what -1", court.judge(4, -1), -1);
        due("7 what 5", court.judge(4, 5), 1);
        due("7 what 6", court.judge(4, 6), -1);
        due("7 least what", court.judge(0, LEAST), -1);
        due("7 most what", court.judge(0, MOST), -1);
        due("7 behind the last of one", Checks.court("judge a 1 1;").judge(1, 0), -1);
        due("7 of none", new CushionCourt().judge(0, 2), -1);
    }

    // 8: "-2: there are no so many"; "NONE: .. k is below 0".
    private static void promise8NotSoMany() {
        for (int many = 0; many <= 9; many++) {
            CushionCourt court = Checks.court(feathers(many, 1, ""), 2);
            int has = Math.min(8, many);
            due("8 the first of " + many, court.feather(0, 0), has == 0 ? -2 : many - has);
            due("8 the top of " + many, court.feather(0, has - 1), has == 0 ? -1 : many - 1);
            due("8 behind the top of " + many, court.feather(0, has), -2);
            due("8 most k of " + many, court.feather(0, MOST), -2);
            due("8 k -1 of " + many, court.feather(0, -1), -1);
            due("8 least k of " + many, court.feather(0, LEAST), -1);
        }
    }

    // 8: "NONE: no such JUDGE".
    private static void promise8NoSuchJudge() {
        CushionCourt court = Checks.court("judge b 50 0;" + feathers(1, 1, ""), 2);
        due("8 the last judge", court.feather(1, 0), 0);
        due("8 behind the last judge", court.feather(2, 0), -1);
        due("8 behind the last judge, and not so many", court.feather(2, 5), -1);
        due("8 judge -1", court.feather(-1, 0), -1);
        due("8 least judge", court.feather(LEAST, 0), -1);
        due("8 most judge", court.feather(MOST, MOST), -1);
        due("8 of none", new CushionCourt().feather(0, 0), -1);
    }

    // 9: "NONE: no such CLERK"; bits up to that of the tenth CASE.
    private static void promise9NoSuchClerk() {
        CushionCourt court = Checks.court(
                feathers(10, 1, "beat 9;clerk a 1 0;clerk b 0 9;clerk c 1 1;clerk d 1 6;clerk e 1 9;"), 8);
        due("9 the first clerk: the lowest feather", court.knows(0), 1 << 2);
        due("9 one who doesn't pass", court.knows(1), 0);
        due("9 the fifth clerk: the tenth case, too", court.knows(4), 0b1111111100);
        due("9 no sixth", court.knows(5), -1);
        due("9 clerk -1", court.knows(-1), -1);
        due("9 least clerk", court.knows(LEAST), -1);
        due("9 most clerk", court.knows(MOST), -1);
        due("9 of none", Checks.court("judge a 1 1;").knows(0), -1);
    }

    // 28: "NONE: no such CASE".
    private static void promise28NoSuchCase() {
        CushionCourt court = Checks.court(feathers(2, 1, "clerk k 1 9;clerk l 1 9;clerk m 1 9;"), 8);
        due("28 case 0", court.gossip(0), 0);
        due("28 case -1", court.gossip(-1), -1);
        due("28 the last case", court.gossip(1), 7);
        due("28 behind the last case", court.gossip(2), -1);
        due("28 least case", court.gossip(LEAST), -1);
        due("28 most case", court.gossip(MOST), -1);
        due("28 a case number of a far bit", court.gossip(32), -1);
        due("28 of none", new CushionCourt().gossip(0), -1);
    }

    // 28: bits up to that of the fifth CLERK, of the tenth CASE.
    private static void promise28Bits() {
        CushionCourt court =
                Checks.court(feathers(10, 1, "clerk a 0 9;clerk b 1 6;clerk c 1 7;clerk d 2 9;clerk e 1 9;"), 8);
        due("28 the tenth case", court.gossip(9), 0b10100);
        due("28 the ninth case", court.gossip(8), 0);
        due("28 a lost one", court.gossip(0), 0);
    }

    // 16: "So many DAYS (0 .. 99) go by"; "NONE, and none does: no such number".
    private static void promise16Numbers() {
        CushionCourt court = Checks.court(feathers(2, 0, ""));
        due("16 none", court.days(0), 0);
        due("16 none: nothing is heard", court.count(5), 0);
        String before = Checks.state(court);
        due("16 -1", court.days(-1), -1);
        due("16 100", court.days(100), -1);
        due("16 least", court.days(LEAST), -1);
        due("16 most", court.days(MOST), -1);
        CHECKS.same("16 none does", Checks.state(court), before);
        due("16 99", court.days(99), 99);
        due("16 99 once more", court.days(99), 198);
        due("16 it is heard", court.count(5), 2);
    }

    private static CushionCourt on9801() {
        CushionCourt court = Checks.court("judge a 50 0;");
        for (int i = 0; i < 99; i++) {
            court.days(99);
        }
        return court;
    }

    // 16: "NONE, and none does: .. behind 9900": DAY 9900 can be reached, but none behind it.
    private static void promise16Behind9900() {
        CushionCourt court = on9801();
        due("16 it is 9801", court.count(4), 9801);
        due("16 to 9900", court.days(99), 9900);
        due("16 none from there", court.days(0), 9900);
        due("16 one from there", court.days(1), -1);
        due("16 99 from there", court.days(99), -1);
        due("16 most from there", court.days(MOST), -1);
        due("16 none does", court.count(4), 9900);
    }

    // The same, where not all of the DAYS are behind 9900.
    private static void promise16JustBehind9900() {
        CushionCourt court = on9801();
        court.days(1);
        court.keepIn(0, true);
        due("16 99 from 9802", court.days(99), -1);
        due("16 none of them goes by", court.count(4), 9802);
        due("16 what was done can still be undone", court.count(12), 1);
        due("16 98 from 9802", court.days(98), 9900);
        due("16 then it can't be undone", court.count(12), 0);
    }
}
