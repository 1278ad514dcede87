/**
 * Boundary cases of promises 12 to 15, 27 and 39 to 42 (Terms, ==== 2 and ==== 4): what is done by call, undone, kept
 * and counted. A method for each sentence or part of one, which stands above it as a remark.
 */
public final class DoneEdgesTest {
    private static final Checks CHECKS = new Checks();
    private static final int LEAST = Integer.MIN_VALUE;
    private static final int MOST = Integer.MAX_VALUE;
    private static final int[] WRONG_OF_FIVE = {-1, 5, 32, LEAST, MOST};
    private static final String FIVE = "judge a 50 0;judge b 50 0;judge c 50 0;judge d 50 0;judge e 50 0;beat 0;"
            + "law say not(grave>lean);";
    // Nine feathers go into the first cushion on DAY 1, one is to come on DAY 50.
    private static final String COURT = FIVE + "cause a a 1 1;cause b a 1 2;cause c a 1 3;cause d a 1 4;cause e a 1 5;"
            + "cause f a 1 6;cause g a 1 7;cause h a 1 8;cause i a 1 9;cause j e 50 1;clerk k 1 9;";

    public static void main(String[] args) {
        promise12NoSuchOnes();
        promise12Alike();
        promise12Cushions();
        promise13NoSuchJudge();
        promise13ItIsSo();
        promise13TheCushionThatItHasNow();
        promise14NoSuchJudge();
        promise14HowMany();
        promise14AllAreLost();
        promise15NoSuchOnes();
        promise15Heard();
        promise15BeforeThatOne();
        promise27None();
        promise27FirstOfSeveral();
        promise39None();
        promise39NoDayWentBy();
        promise39TwentyAtMost();
        promise39TwentyOfEachKind();
        promise39RefusedCalls();
        promise39LatestFirst();
        promise39RestuffedTwice();
        promise40InPlaceOfOneAhead();
        promise41None();
        promise41NothingToUndo();
        promise41AllButFound();
        promise41MoreThanOnce();
        promise42AnotherWhat();
        promise42LeastCounts();
        promise42MostCounts();
        CHECKS.end("DoneEdgesTest");
    }

    private static void due(String what, long got, long want) {
        CHECKS.due(what, got, want);
    }

    private static void due(String what, boolean got, boolean want) {
        CHECKS.due(what, got, want);
    }

    // 12: "false: no such ones".
    private static void promise12NoSuchOnes() {
        CushionCourt court = Checks.court(COURT, 2);
        String before = Checks.state(court);
        for (int wrong : WRONG_OF_FIVE) {
            due("12 no such one " + wrong, court.exchange(wrong, 0), false);
            due("12 no such other " + wrong, court.exchange(4, wrong), false);
            due("12 neither " + wrong, court.exchange(wrong, wrong), false);
        }
        CHECKS.same("12 refused: all is as it was", Checks.state(court), before);
        due("12 the first and the last", court.exchange(0, 4), true);
        due("12 the last and the first", court.exchange(4, 0), true);
        due("12 behind the last of two", Checks.court("judge a 1 1;judge b 1 1;").exchange(0, 2), false);
        due("12 of none", new CushionCourt().exchange(0, 1), false);
    }

    // 12: "false: .. alike".
    private static void promise12Alike() {
        CushionCourt court = Checks.court(FIVE);
        for (int i = 0; i < 5; i++) {
            due("12 alike " + i, court.exchange(i, i), false);
        }
        due("12 alike: nothing to undo", court.count(12), 0);
        due("12 not alike", court.exchange(3, 4), true);
        due("12 alike by cushions is no matter", court.exchange(4, 3), true);
    }

    // 12: "Two JUDGES exchange CUSHIONS": those that they have, feathers and keeping in go along.
    private static void promise12Cushions() {
        CushionCourt court = Checks.court(COURT, 2);
        court.keepIn(0, true);
        court.exchange(0, 4);
        court.exchange(4, 2);
        due("12 the first has the fifth's", court.judge(0, 2), 4);
        due("12 the third has the first's", court.judge(2, 2), 0);
        due("12 the fifth has the third's", court.judge(4, 2), 2);
        due("12 feathers", court.judge(2, 3), 8);
        due("12 kept in", court.judge(2, 4), 1);
        due("12 the others are empty", court.judge(0, 3) + court.judge(4, 3), 0);
    }

    // 13: "false: no such JUDGE".
    private static void promise13NoSuchJudge() {
        CushionCourt court = Checks.court(COURT, 2);
        String before = Checks.state(court);
        for (int wrong : WRONG_OF_FIVE) {
            due("13 no such judge " + wrong, court.keepIn(wrong, true), false);
            due("13 no such judge, no more " + wrong, court.keepIn(wrong, false), false);
        }
        CHECKS.same("13 refused: all is as it was", Checks.state(court), before);
        due("13 the first", court.keepIn(0, true), true);
        due("13 the last", court.keepIn(4, true), true);
        due("13 of none", new CushionCourt().keepIn(0, true), false);
    }

    // 13: "false: .. it is so".
    private static void promise13ItIsSo() {
        CushionCourt court = Checks.court(FIVE);
        due("13 it isn't kept in at first", court.keepIn(2, false), false);
        due("13 it is now", court.keepIn(2, true), true);
        due("13 it is so", court.keepIn(2, true), false);
        due("13 no more", court.keepIn(2, false), true);
        due("13 no more is so", court.keepIn(2, false), false);
        due("13 two can be undone", court.count(12), 2);
    }

    // 13: "The CUSHION that a JUDGE has now".
    private static void promise13TheCushionThatItHasNow() {
        CushionCourt court = Checks.court(FIVE);
        court.keepIn(0, true);
        court.exchange(0, 4);
        due("13 the last one's is so", court.keepIn(4, true), false);
        due("13 the first one's isn't", court.keepIn(0, true), true);
        due("13 no more of the last one's", court.keepIn(4, false), true);
        due("13 the first one's is still", court.judge(0, 4), 1);
    }

    // 14: "NONE: no such JUDGE".
    private static void promise14NoSuchJudge() {
        CushionCourt court = Checks.court(COURT, 2);
        String before = Checks.state(court);
        for (int wrong : WRONG_OF_FIVE) {
            due("14 no such judge " + wrong, court.restuff(wrong), -1);
        }
        CHECKS.same("14 refused: all is as it was", Checks.state(court), before);
        due("14 the last", court.restuff(4), 0);
        due("14 of none", new CushionCourt().restuff(0), -1);
    }

    // 14: "how many FEATHERS are LOST by it": none, one, eight of nine.
    private static void promise14HowMany() {
        due("14 none", Checks.court(COURT, 1).restuff(0), 0);
        CushionCourt one = Checks.court(COURT);
        one.give(3, 4);
        one.days(2);
        due("14 one", one.restuff(4), 1);
        due("14 eight", one.restuff(0), 8);
        CushionCourt nine = Checks.court(COURT, 2);
        due("14 one of nine was lost ahead", nine.count(9), 1);
        due("14 eight of nine", nine.restuff(0), 8);
        due("14 all nine are lost", nine.count(9), 9);
        due("14 none more", nine.restuff(0), 0);
        due("14 still nine", nine.count(9), 9);
    }

    // 14: what is lost isn't in the CUSHION, and the CUSHION is as a new one.
    private static void promise14AllAreLost() {
        CushionCourt court = Checks.court(COURT, 2);
        court.restuff(0);
        due("14 no feather", court.feather(0, 0), -2);
        due("14 none in cushions", court.count(7), 0);
        due("14 it is still kept in or not", court.judge(0, 4), 0);
        court.exchange(0, 4);
        court.days(49);
        due("14 a new feather is the lowest one", court.feather(4, 0), 9);
        due("14 and the only one", court.judge(4, 3), 1);
    }

    // 15: "false: no such ones".
    private static void promise15NoSuchOnes() {
        CushionCourt court = Checks.court(COURT);
        String before = Checks.state(court);
        int[] wrongCases = {-1, 10, 32, LEAST, MOST};
        for (int i = 0; i < 5; i++) {
            due("15 no such case " + wrongCases[i], court.give(wrongCases[i], 1), false);
            due("15 no such judge " + WRONG_OF_FIVE[i], court.give(9, WRONG_OF_FIVE[i]), false);
        }
        due("15 neither", court.give(10, 5), false);
        CHECKS.same("15 refused: all is as it was", Checks.state(court), before);
        due("15 the first case to the last judge", court.give(0, 4), true);
        due("15 the last case to the first judge", court.give(9, 0), true);
        due("15 of none", new CushionCourt().give(0, 0), false);
    }

    // 15: "A CASE that isn't heard yet"; "false: .. heard".
    private static void promise15Heard() {
        CushionCourt court = Checks.court(COURT, 1);
        due("15 on its day, not heard yet", court.give(0, 4), true);
        court.days(1);
        due("15 heard", court.give(1, 4), false);
        due("15 heard, back to the other", court.give(0, 0), false);
        due("15 heard by the one that it was given to", court.judge(4, 5), 1);
        due("15 to come", court.give(9, 0), true);
        court.days(48);
        due("15 on its last day", court.give(9, 1), true);
        court.days(1);
        due("15 heard, too", court.give(9, 2), false);
        due("15 it stays", Checks.cause(court, 9, 0), 1);
    }

    // 15: "false: .. it is before that one".
    private static void promise15BeforeThatOne() {
        CushionCourt court = Checks.court(COURT);
        due("15 before that one as told", court.give(9, 4), false);
        due("15 to another", court.give(9, 3), true);
        due("15 before that one as given", court.give(9, 3), false);
        due("15 back", court.give(9, 4), true);
        due("15 two can be undone", court.count(12), 2);
    }

    // 27: "NONE: there is none".
    private static void promise27None() {
        due("27 no judge", new CushionCourt().plumpest(), -1);
        due("27 no judge in a text", Checks.court("clerk k 1 1;").plumpest(), -1);
        due("27 one judge", Checks.court("judge a 1 1;").plumpest(), 0);
    }

    // 27: "the first of several": of empty ones, of full ones; by who has it now.
    private static void promise27FirstOfSeveral() {
        CushionCourt court = Checks.court(COURT);
        due("27 all are empty", court.plumpest(), 0);
        court.give(0, 3);
        court.give(1, 2);
        court.days(2);
        due("27 seven", court.plumpest(), 0);
        court.exchange(0, 4);
        due("27 who has it now", court.plumpest(), 4);
        court.restuff(4);
        due("27 two of one each", court.plumpest(), 2);
        court.exchange(1, 3);
        due("27 two of one each, the first of them", court.plumpest(), 1);
    }

    // 39: "NONE: none".
    private static void promise39None() {
        due("39 a new object", new CushionCourt().undo(), -1);
        CushionCourt court = Checks.court(FIVE);
        due("39 a new text", court.undo(), -1);
        court.exchange(0, 1);
        due("39 the only one", court.undo(), 0);
        due("39 none is left", court.undo(), -1);
        due("39 and none again", court.undo(), -1);
    }

    // 39 and ==== 4: "if no DAY went by since".
    private static void promise39NoDayWentBy() {
        CushionCourt court = Checks.court(FIVE);
        court.exchange(0, 1);
        court.days(0);
        due("39 no day", court.count(12), 1);
        court.days(-1);
        court.days(100);
        due("39 no day by a wrong number", court.count(12), 1);
        court.ahead(99, 0);
        court.chance(1, 9, 1);
        court.tried(0, 0, 9);
        court.empties(0);
        due("39 no day by asking what comes", court.count(12), 1);
        court.days(1);
        due("39 a day went by", court.count(12), 0);
        due("39 it can't be undone", court.undo(), -1);
        due("39 it stays", court.judge(0, 2), 1);
        court.exchange(2, 3);
        due("39 what is done since can", court.undo(), 0);
    }

    // 39 and ==== 4: "(20 at most)": of 21 the first one is forgotten.
    private static void promise39TwentyAtMost() {
        CushionCourt court = Checks.court(COURT);
        due("39 the first", court.give(9, 0), true);
        for (int i = 2; i <= 20; i++) {
            court.exchange(0, 1);
            due("39 done " + i, court.count(12), i);
        }
        for (int left = 19; left >= 0; left--) {
            due("39 left", court.undo(), left);
        }
        due("39 all twenty are undone, the first, too", Checks.cause(court, 9, 0), 4);
        court.give(9, 0);
        for (int i = 2; i <= 21; i++) {
            court.exchange(0, 1);
        }
        due("39 twenty of 21", court.count(12), 20);
        for (int left = 19; left >= 0; left--) {
            due("39 left of 21", court.undo(), left);
        }
        due("39 no 21st", court.undo(), -1);
        due("39 the first stays done", Checks.cause(court, 9, 0), 0);
        due("39 the others are undone", court.judge(0, 2), 0);
    }

    // The same with many more than twenty, of each kind in turn, and undone as far as it goes.
    private static void promise39TwentyOfEachKind() {
        CushionCourt court = Checks.court(COURT, 2);
        for (int i = 0; i < 12; i++) {
            turn(court, i);
        }
        String before = Checks.state(court);
        for (int i = 12; i < 17; i++) {
            turn(court, i);
        }
        due("39 twenty of 68", court.count(12), 20);
        for (int i = 0; i < 20; i++) {
            court.undo();
        }
        due("39 no more", court.undo(), -1);
        CHECKS.same("39 as it was twenty ago, but for what can be undone",
                withoutDeeds(Checks.state(court)), withoutDeeds(before));
    }

    private static void turn(CushionCourt court, int i) {
        court.exchange(i % 5, (i + 1) % 5);
        court.keepIn(i % 5, court.judge(i % 5, 4) == 0);
        court.restuff(i % 5);
        court.give(9, i % 2);
    }

    private static String withoutDeeds(String state) {
        String[] counts = state.split(" ", 14);
        counts[12] = "";
        return String.join(" ", counts);
    }

    // 39: what was refused isn't done, so it can't be undone.
    private static void promise39RefusedCalls() {
        CushionCourt court = Checks.court(COURT, 2);
        court.exchange(0, 0);
        court.exchange(0, 5);
        court.keepIn(0, false);
        court.keepIn(5, true);
        court.restuff(5);
        court.give(0, 1);
        court.give(9, 4);
        court.give(9, 5);
        due("39 nothing was done", court.undo(), -1);
        court.restuff(1);
        due("39 restuffing an empty one is done", court.undo(), 0);
    }

    // 39: "The latest is undone: how many are left".
    private static void promise39LatestFirst() {
        CushionCourt court = Checks.court(COURT, 2);
        court.keepIn(0, true);
        court.exchange(0, 4);
        court.restuff(4);
        court.give(9, 1);
        due("39 three are left", court.undo(), 3);
        due("39 the case is back", Checks.cause(court, 9, 0), 4);
        due("39 nothing else", court.judge(4, 3), 0);
        due("39 two are left", court.undo(), 2);
        due("39 the feathers are back", court.judge(4, 3), 8);
        due("39 the lowest is the second case still", court.feather(4, 0), 1);
        due("39 just the one of nine is lost", court.count(9), 1);
        due("39 one is left", court.undo(), 1);
        due("39 the cushion is back", court.judge(0, 2), 0);
        due("39 none is left", court.undo(), 0);
        due("39 no more kept in", court.judge(0, 4), 0);
    }

    // 39: the same CUSHION restuffed twice: the second time nothing was lost.
    private static void promise39RestuffedTwice() {
        CushionCourt court = Checks.court(COURT, 2);
        court.restuff(0);
        court.restuff(0);
        due("39 the second restuffing", court.undo(), 1);
        due("39 it is empty still", court.judge(0, 3), 0);
        due("39 nine are lost still", court.count(9), 9);
        due("39 the first restuffing", court.undo(), 0);
        due("39 it is full again", court.judge(0, 3), 8);
        due("39 one is lost", court.count(9), 1);
        due("39 the top is in the cushion", Checks.cause(court, 8, 5), 1);
        due("39 the first stays lost", Checks.cause(court, 0, 5), 3);
    }

    // 40: "An IMAGE is kept (in place of one ahead): which DAY it is".
    private static void promise40InPlaceOfOneAhead() {
        CushionCourt court = Checks.court(COURT);
        due("40 on DAY 0", court.keep(), 0);
        court.days(9);
        due("40 on DAY 9", court.keep(), 9);
        court.days(1);
        due("41 the later one", court.back(), 9);
        due("41 and no other", court.back(), 9);
        due("40 of a new object", new CushionCourt().keep(), 0);
    }

    // 41: "NONE: there is none".
    private static void promise41None() {
        CushionCourt court = Checks.court(COURT, 2);
        court.exchange(0, 1);
        due("41 none", court.back(), -1);
        due("41 none: what was done can still be undone", court.undo(), 0);
        court.keep();
        due("41 there is one", court.back(), 2);
        Checks.tell(court, "judge a 1 1;!");
        due("41 there is one behind a text with a fault", court.back(), 2);
        court.text(99);
        due("41 there is one behind -2", court.back(), 2);
        Checks.tell(court, COURT);
        due("41 there is none behind a text", court.back(), -1);
        due("41 of a new object", new CushionCourt().back(), -1);
    }

    // 41: "(nothing to undo then)".
    private static void promise41NothingToUndo() {
        CushionCourt court = Checks.court(COURT);
        court.exchange(0, 1);
        court.keep();
        due("40 what was done can still be undone", court.count(12), 1);
        court.back();
        due("41 nothing to undo", court.undo(), -1);
        due("41 what was done ahead of the image stays", court.judge(0, 2), 1);
    }

    // 41 and ==== 4: "All (but FOUND) is as in the IMAGE".
    private static void promise41AllButFound() {
        CushionCourt court = Checks.court(COURT.replace("beat 0;", "beat 2;"), 2);
        court.keepIn(3, true);
        court.find(2, 0, true);
        String before = Checks.state(court);
        court.keep();
        court.exchange(0, 4);
        court.keepIn(2, true);
        court.give(9, 2);
        court.days(60);
        court.restuff(4);
        court.find(2, 4, false);
        court.strike(0);
        due("41 back", court.back(), 2);
        due("41 found stays", court.count(10), 3);
        court.known(1);
        String[] was = before.split(" ", 14);
        String[] is = Checks.state(court).split(" ", 14);
        for (int i = 0; i <= 9; i++) {
            CHECKS.same("41 count " + i, is[i], was[i]);
        }
        CHECKS.same("41 all the rest", is[13], was[13]);
    }

    // 41: the IMAGE stays kept, however often one goes back.
    private static void promise41MoreThanOnce() {
        CushionCourt court = Checks.court(COURT, 2);
        court.keep();
        for (int i = 0; i < 3; i++) {
            court.restuff(0);
            court.days(60);
            due("41 back again", court.back(), 2);
            due("41 feathers again", court.judge(0, 3), 8);
            due("41 not heard again", Checks.cause(court, 9, 4), -1);
        }
    }

    // 42: "NONE for another what".
    private static void promise42AnotherWhat() {
        CushionCourt court = Checks.court(COURT);
        due("42 what 0", court.count(0), 5);
        due("42 what -1", court.count(-1), -1);
        due("42 what 12", court.count(12), 0);
        due("42 what 13", court.count(13), -1);
        due("42 least what", court.count(LEAST), -1);
        due("42 most what", court.count(MOST), -1);
    }

    // 42: the least of each.
    private static void promise42LeastCounts() {
        CushionCourt court = Checks.court("beat 1;");
        for (int what = 0; what <= 12; what++) {
            due("42 least of " + what, court.count(what), 0);
        }
    }

    // 42: the most of each.
    private static void promise42MostCounts() {
        String text = COURT.replace("beat 0;", "").replace("law say not(grave>lean);", "law say 1-(grave>lean);")
                + "clerk l 1 1;clerk m 1 1;clerk n 1 1;clerk o 1 1;law fly 8" + Checks.times("+0", 28) + "+lean;";
        CushionCourt court = Checks.court(text);
        long[] counts = {5, 10, 5, 64, 99, 10, 10, 0, 9, 1, 24, 24, 20};
        court.days(99);
        for (int i = 0; i < 24; i++) {
            court.find(0, 0, false);
        }
        for (int i = 0; i < 25; i++) {
            court.exchange(0, 1);
        }
        for (int what = 0; what <= 12; what++) {
            due("42 most of " + what, court.count(what), counts[what]);
        }
        CushionCourt held = Checks.court(text);
        for (int i = 0; i < 5; i++) {
            held.keepIn(i, true);
        }
        held.days(99);
        due("42 most in cushions", held.count(7), 9);
        for (int i = 0; i < 5; i++) {
            held.restuff(i);
        }
        due("42 most lost", held.count(9), 10);
    }
}
