/** Promises 6 to 9, 12 to 16, 28, 39 to 42: days, what is looked up, what is done by call and undone, images. */
public final class DayPromisesTest {
    private static final Checks CHECKS = new Checks();

    // Ann thinks p, r and t not guilty, but says guilty, being stiff and near; q she thinks and says guilty.
    private static final String ANN = "judge ann 40 6;judge bob 70 0;cause p ann 0 35;cause q ann 1 45;"
            + "cause r ann 2 38;cause s bob 7 60;cause t ann 9 31;"
            + "clerk kim 1 9;clerk leo 1 0;clerk mia 2 9;clerk ned 127 1;";
    private static final String HELD = ANN + "beat 0;";
    // One judge who says the contrary of what it thinks, and ten cases on a Tuesday.
    private static final String TEN = "judge a 50 0;law say not (grave>lean);"
            + "cause a a 1 10;cause b a 1 11;cause c a 1 12;cause d a 1 13;cause e a 1 14;"
            + "cause f a 1 15;cause g a 1 16;cause h a 1 17;cause i a 1 90;cause j a 1 91;";

    public static void main(String[] args) {
        promise6();
        promise7();
        promise8();
        promise9();
        promise12();
        promise13();
        promise14();
        promise15();
        promise16();
        thoughtAndSaid();
        lawsOfThoughtAndSaid();
        lost();
        out();
        heard();
        promise39();
        twentyAtMost();
        promise40And41();
        promise42();
        CHECKS.end("DayPromisesTest");
    }

    private static void due(String what, long got, long want) {
        CHECKS.due(what, got, want);
    }

    private static void due(String what, boolean got, boolean want) {
        CHECKS.due(what, got, want);
    }

    private static long[] causes(CushionCourt court, int what) {
        long[] answers = new long[court.count(1)];
        for (int i = 0; i < answers.length; i++) {
            answers[i] = Checks.cause(court, i, what);
        }
        return answers;
    }

    private static void promise6() {
        CushionCourt court = Checks.court(HELD);
        CHECKS.row("6 judge", causes(court, 0), 0, 0, 0, 1, 0);
        CHECKS.row("6 day", causes(court, 1), 0, 1, 2, 7, 9);
        CHECKS.row("6 grave", causes(court, 2), 35, 45, 38, 60, 31);
        CHECKS.row("6 thought", causes(court, 3), -1, -1, -1, -1, -1);
        CHECKS.row("6 said", causes(court, 4), -1, -1, -1, -1, -1);
        CHECKS.row("6 fate", causes(court, 5), 0, 0, 0, 0, 0);
        court.days(8);
        CHECKS.row("6 thought then", causes(court, 3), 0, 1, 0, 0, -1);
        CHECKS.row("6 said then", causes(court, 4), 1, 1, 1, 0, -1);
        CHECKS.row("6 fate then", causes(court, 5), 1, 0, 1, 0, 0);
        due("6 no such case", Checks.cause(court, 5, 0), Checks.THROWS_BOUNDS);
        due("6 case below", Checks.cause(court, -1, 0), Checks.THROWS_BOUNDS);
        due("6 no such what", Checks.cause(court, 0, 6), Checks.THROWS_NO_SUCH);
        due("6 what below", Checks.cause(court, 4, -1), Checks.THROWS_NO_SUCH);
        due("6 neither", Checks.cause(court, 5, 6), Checks.THROWS_BOUNDS);
    }

    private static void promise7() {
        CushionCourt court = Checks.court(HELD, 3);
        due("7 lean", court.judge(0, 0), 40);
        due("7 stiff", court.judge(0, 1), 6);
        due("7 cushion", court.judge(1, 2), 1);
        due("7 feathers", court.judge(0, 3), 2);
        due("7 kept in", court.judge(0, 4), 0);
        due("7 heard", court.judge(0, 5), 3);
        due("7 heard none", court.judge(1, 5), 0);
        court.keepIn(0, true);
        court.exchange(0, 1);
        due("7 other cushion", court.judge(1, 2), 0);
        due("7 feathers went along", court.judge(1, 3), 2);
        due("7 kept in went along", court.judge(1, 4), 1);
        due("7 the other isn't", court.judge(0, 4), 0);
        due("7 heard stays", court.judge(0, 5), 3);
        due("7 no such judge", court.judge(2, 0), -1);
        due("7 judge below", court.judge(-1, 0), -1);
        due("7 no such what", court.judge(0, 6), -1);
        due("7 what below", court.judge(0, -1), -1);
    }

    private static void promise8() {
        CushionCourt court = Checks.court(HELD, 3);
        due("8 lowest", court.feather(0, 0), 0);
        due("8 next", court.feather(0, 1), 2);
        due("8 not so many", court.feather(0, 2), -2);
        due("8 empty", court.feather(1, 0), -2);
        due("8 below", court.feather(0, -1), -1);
        due("8 no such judge", court.feather(2, 0), -1);
        due("8 judge below", court.feather(-1, 0), -1);
        court.exchange(0, 1);
        due("8 exchanged", court.feather(1, 1), 2);
        due("8 exchanged, the other", court.feather(0, 0), -2);
    }

    private static void promise9() {
        CushionCourt court = Checks.court(ANN, 1);
        due("9 kim", court.knows(0), 1);
        due("9 leo", court.knows(1), 1);
        due("9 mia doesn't pass on Mondays", court.knows(2), 0);
        due("9 ned", court.knows(3), 1);
        due("9 no such clerk", court.knows(4), -1);
        due("9 below", court.knows(-1), -1);
        court.days(7);
        due("9 kim knows more", court.knows(0), 5);
        due("28 gossip", court.gossip(2), 11);
        due("28 no gossip", court.gossip(1), 0);
        due("28 no such case", court.gossip(5), -1);
        due("28 case below", court.gossip(-1), -1);
    }

    private static void promise12() {
        CushionCourt court = Checks.court(HELD, 1);
        due("12 exchanged", court.exchange(0, 1), true);
        due("12 cushion", court.judge(0, 2), 1);
        due("12 alike", court.exchange(1, 1), false);
        due("12 no such one", court.exchange(2, 1), false);
        due("12 no such other", court.exchange(0, 2), false);
        due("12 below", court.exchange(-1, 0), false);
        due("12 below, other", court.exchange(0, -1), false);
        court.days(2);
        due("12 a feather goes into the cushion that the judge has then", court.feather(0, 0), 2);
        due("12 the old one", court.feather(1, 0), 0);
        due("12 of the old one alone", court.judge(1, 3), 1);
    }

    private static void promise13() {
        CushionCourt court = Checks.court(ANN);
        due("13 it is so", court.keepIn(0, false), false);
        due("13 kept in", court.keepIn(0, true), true);
        due("13 it is so now", court.keepIn(0, true), false);
        due("13 no such judge", court.keepIn(2, true), false);
        due("13 below", court.keepIn(-1, true), false);
        court.days(3);
        due("13 nothing got out", court.count(8), 0);
        due("13 no more", court.keepIn(0, false), true);
        court.days(5);
        due("13 one got out", court.count(8), 1);
        CushionCourt other = Checks.court(ANN);
        other.keepIn(0, true);
        other.exchange(0, 1);
        other.days(1);
        due("13 it is the cushion that is kept in, not the judge's", other.count(8), 1);
    }

    private static void promise14() {
        CushionCourt court = Checks.court(HELD, 3);
        due("14 lost", court.restuff(0), 2);
        due("14 empty", court.judge(0, 3), 0);
        CHECKS.row("14 fate", causes(court, 5), 3, 0, 3, 0, 0);
        due("14 count of lost", court.count(9), 2);
        due("14 none more", court.restuff(0), 0);
        due("14 of another", court.restuff(1), 0);
        due("14 no such judge", court.restuff(2), -1);
        due("14 below", court.restuff(-1), -1);
        due("14 each can be undone", court.count(12), 3);
        court.days(7);
        due("14 a feather goes into the new one", court.feather(0, 0), 4);
    }

    private static void promise15() {
        CushionCourt court = Checks.court(HELD, 1);
        due("15 given", court.give(1, 1), true);
        due("15 it is before that one", court.give(1, 1), false);
        due("15 heard", court.give(0, 1), false);
        due("15 no such case", court.give(5, 1), false);
        due("15 case below", court.give(-1, 1), false);
        due("15 no such judge", court.give(2, 2), false);
        due("15 judge below", court.give(2, -1), false);
        due("15 judge", Checks.cause(court, 1, 0), 1);
        court.days(1);
        due("15 thought by the other", Checks.cause(court, 1, 3), 0);
        due("15 heard by the other", court.judge(1, 5), 1);
    }

    private static void promise16() {
        CushionCourt court = Checks.court(HELD);
        due("16 none", court.days(0), 0);
        due("16 one", court.days(1), 1);
        due("16 too many", court.days(100), -1);
        due("16 below", court.days(-1), -1);
        due("16 none went by", court.count(4), 1);
        for (int i = 0; i < 99; i++) {
            court.days(99);
        }
        due("16 far", court.count(4), 9802);
        due("16 on", court.days(97), 9899);
        due("16 behind the last one", court.days(2), -1);
        due("16 none does", court.count(4), 9899);
        due("16 the last one", court.days(1), 9900);
        due("16 no more", court.days(1), -1);
        due("16 none is fine", court.days(0), 9900);
        due("16 ahead from the last one", court.ahead(99, 3), 0);
    }

    private static void verdict(String what, String judge, int grave, int thought, int said) {
        CushionCourt court = Checks.court("judge a " + judge + ";cause p a 1 " + grave + ";", 2);
        due(what + " thought", Checks.cause(court, 0, 3), thought);
        due(what + " said", Checks.cause(court, 0, 4), said);
        due(what + " feather", court.judge(0, 3), thought == said ? 0 : 1);
    }

    private static void thoughtAndSaid() {
        verdict("above", "40 0", 41, 1, 1);
        verdict("as", "40 0", 40, 0, 0);
        verdict("below", "40 0", 39, 0, 0);
        verdict("stiff, as", "40 5", 40, 0, 1);
        verdict("not stiff enough", "40 4", 40, 0, 0);
        verdict("stiff, near below", "40 5", 31, 0, 1);
        verdict("stiff, far below", "40 5", 30, 0, 0);
        verdict("stiff, near above", "40 9", 49, 1, 1);
        verdict("stiff, far above", "40 9", 50, 1, 1);
    }

    private static void lawVerdict(String laws, int thought, int said) {
        CushionCourt court = Checks.court("judge a 40 5;cause p a 1 35;damp 2;damp 7;" + laws, 2);
        due(laws + " thought", Checks.cause(court, 0, 3), thought);
        due(laws + " said", Checks.cause(court, 0, 4), said);
    }

    private static void lawsOfThoughtAndSaid() {
        lawVerdict("law think 1;", 1, 1);
        lawVerdict("law think 0-3;law say 0;", 1, 0);
        lawVerdict("law think 0;law say 2;", 0, 1);
        lawVerdict("law think 1/0;", 0, 1);
        lawVerdict("law think 1;law say 1/0;", 1, 1);
        lawVerdict("law think 0;law say 1/0;", 0, 1);
        lawVerdict("law think 1/(grave>99);law say 0;", 0, 0);
        lawVerdict("law think moist=7 and day=1;law say sure=5 and plump=0 and stiff=5;", 1, 1);
        lawVerdict("law think moist=2;law say lean=40 and grave=35 and sure<>5;", 0, 0);
        // Of two cases on one day the later one finds the feather of the one ahead.
        CushionCourt court =
                Checks.court("judge a 40 0;cause p a 1 35;cause q a 1 45;law think plump=0;law say plump>0;", 2);
        CHECKS.row("plump on a day, thought", causes(court, 3), 1, 0);
        CHECKS.row("plump on a day, said", causes(court, 4), 0, 1);
        CHECKS.row("plump on a day, feathers", new long[] {court.feather(0, 0), court.feather(0, 1)}, 0, 1);
    }

    private static void lost() {
        CushionCourt court = Checks.court(TEN, 2);
        due("lost: eight are left", court.judge(0, 3), 8);
        due("lost: the lowest now", court.feather(0, 0), 2);
        due("lost: the top", court.feather(0, 7), 9);
        due("lost: no ninth", court.feather(0, 8), -2);
        due("lost: two", court.count(9), 2);
        CHECKS.row("lost: fate", causes(court, 5), 3, 3, 1, 1, 1, 1, 1, 1, 1, 1);
        due("lost: in cushions", court.count(7), 8);
    }

    private static long outOf(String more) {
        return Checks.court(TEN + more, 8).count(8);
    }

    private static void out() {
        due("out by beat of 1 without", outOf(""), 1);
        due("out by beat 0", outOf("beat 0;"), 0);
        due("out by beat 3", outOf("beat 3;"), 3);
        due("out by damp 2", outOf("damp 2;"), 1);
        due("out by damp 3", outOf("damp 3;"), 2);
        due("out by damp 8 and beat 2", outOf("damp 8;beat 2;"), 4);
        due("out by damp 9", outOf("damp 9;"), 4);
        due("out by damp of the Monday", outOf("damp 9;damp 9;damp 0;"), 4);
        due("out by damp of the Monday, another", outOf("damp 0;damp 9;damp 9;damp 9;"), 4);
        due("out by beat 9", outOf("beat 9;"), 8);
        due("out by a law", outOf("law fly 5;beat 9;"), 5);
        due("out by a law below 0", outOf("law fly 0-5;beat 9;"), 0);
        due("out by a law above 8", outOf("law fly 9999;"), 8);
        due("out by a law of 0", outOf("law fly 0;beat 9;"), 0);
        due("out by an error", outOf("law fly 1/0;beat 2;"), 2);
        due("out by plump, day and lean", outOf("law fly (plump=8)+(day=7)+(lean=50)+(grave=0)+(sure=0);"), 5);
        CushionCourt court = Checks.court(TEN + "beat 3;", 8);
        due("out from the top", court.feather(0, 4), 6);
        CHECKS.row("out: fate", causes(court, 5), 3, 3, 1, 1, 1, 1, 1, 2, 2, 2);
        court.days(6);
        due("out on Mondays alone", court.count(8), 3);
        court.days(1);
        due("out on the next one", court.count(8), 6);
        court.days(7);
        due("no more than it has", court.count(8), 8);
        due("none is left", court.judge(0, 3), 0);
    }

    private static void heard() {
        CushionCourt court = Checks.court(TEN + "beat 3;clerk k 1 9;clerk l 1 6;clerk m 1 5;clerk n 127 4;clerk o 126 9;",
                8);
        due("heard by all ears", court.knows(0), 1 << 9 | 1 << 8 | 1 << 7);
        due("heard with six below", court.knows(1), 1 << 8 | 1 << 7);
        due("heard with five below", court.knows(2), 1 << 7);
        due("heard by too weak ears", court.knows(3), 0);
        due("heard on other days", court.knows(4), 0);
        due("known from then on", court.days(1) + court.knows(1), 9 + (1 << 8 | 1 << 7));
    }

    private static void promise39() {
        CushionCourt court = Checks.court(HELD, 3);
        due("39 none", court.undo(), -1);
        court.exchange(0, 1);
        court.keepIn(1, true);
        court.restuff(1);
        court.give(3, 0);
        due("39 four", court.count(12), 4);
        due("39 the case", court.undo(), 3);
        due("39 the case is as it was", Checks.cause(court, 3, 0), 1);
        due("39 the restuffing", court.undo(), 2);
        due("39 feathers are back", court.feather(1, 1), 2);
        due("39 fate is back", Checks.cause(court, 2, 5), 1);
        due("39 nothing is lost", court.count(9), 0);
        due("39 keeping in", court.undo(), 1);
        due("39 it isn't kept in", court.judge(1, 4), 0);
        due("39 exchanging", court.undo(), 0);
        due("39 cushions are back", court.judge(0, 2), 0);
        due("39 no more", court.undo(), -1);
        court.keepIn(0, true);
        court.days(0);
        due("39 no day went by", court.count(12), 1);
        court.days(100);
        due("39 no day went by with a wrong number", court.count(12), 1);
        court.days(1);
        due("39 a day went by", court.undo(), -1);
        due("39 it stays kept in", court.judge(0, 4), 1);
        court.exchange(0, 0);
        court.keepIn(0, true);
        court.give(0, 1);
        court.restuff(7);
        due("39 what failed can't be undone", court.count(12), 0);
        court.keepIn(0, false);
        due("39 no more kept in, undone", court.undo() + court.judge(0, 4), 1);
    }

    private static void twentyAtMost() {
        CushionCourt court = Checks.court(HELD, 3);
        court.give(3, 0);
        court.restuff(0);
        for (int i = 0; i < 19; i++) {
            court.exchange(0, 1);
        }
        due("39 twenty", court.count(12), 20);
        for (int i = 0; i < 19; i++) {
            court.undo();
        }
        due("39 still restuffed", court.count(7), 0);
        due("39 the twentieth", court.undo(), 0);
        due("39 the feathers", court.count(7), 2);
        due("39 the first one is too old", court.undo(), -1);
        due("39 the first one stays", Checks.cause(court, 3, 0), 0);
    }

    private static void promise40And41() {
        CushionCourt court = Checks.court(ANN, 1);
        due("41 no image", court.back(), -1);
        court.keepIn(1, true);
        due("40 kept", court.keep(), 1);
        due("40 what can be undone stays", court.count(12), 1);
        court.find(0, 0, true);
        court.exchange(0, 1);
        court.give(3, 0);
        court.days(7);
        court.restuff(0);
        due("41 back", court.back(), 1);
        due("41 nothing to undo", court.undo(), -1);
        due("41 found stays", court.count(10), 1);
        due("41 cushions", court.judge(0, 2), 0);
        due("41 kept in", court.judge(1, 4), 1);
        due("41 judge of a case", Checks.cause(court, 3, 0), 1);
        due("41 what is heard", court.knows(0), 1);
        CHECKS.row("41 said", causes(court, 4), 1, -1, -1, -1, -1);
        CHECKS.row("41 thought", causes(court, 3), 0, -1, -1, -1, -1);
        CHECKS.row("41 fate", causes(court, 5), 2, 0, 0, 0, 0);
        court.days(3);
        due("41 days go on as they did", court.feather(0, 0), 2);
        due("41 back once more", court.back(), 1);
        court.days(1);
        due("40 in place of the one ahead", court.keep(), 2);
        court.days(9);
        due("41 back to the latest", court.back(), 2);
        CushionCourt known = Checks.court(HELD, 3);
        known.find(0, 0, true);
        known.known(0);
        known.keep();
        known.known(1);
        known.back();
        due("41 by how many it is known goes with what is found", known.count(11), 1);
    }

    private static void promise42() {
        CushionCourt court = Checks.court(ANN + "law fly 1+1;law think grave > lean;", 1);
        court.keepIn(0, true);
        court.days(2);
        court.find(0, 0, true);
        court.find(2, 0, true);
        court.known(1);
        court.restuff(0);
        long[] counts = new long[13];
        for (int i = 0; i < 13; i++) {
            counts[i] = court.count(i);
        }
        CHECKS.row("42", counts, 2, 5, 4, 6, 3, 3, 3, 0, 1, 1, 2, 1, 1);
        court.undo();
        due("42 feathers in cushions", court.count(7), 1);
        court.known(-1);
        due("42 known by all", court.count(11), 2);
        due("42 no such what", court.count(13), -1);
        due("42 what below", court.count(-1), -1);
    }
}
