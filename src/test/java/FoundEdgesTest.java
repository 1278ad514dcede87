/**
 * Boundary cases of promises 31 to 35 (Terms, ==== 3): what is FOUND, STRUCK and KNOWN, and whose CUSHION may be whose.
 * A method for each sentence or part of one, which stands above it as a remark.
 */
public final class FoundEdgesTest {
    private static final Checks CHECKS = new Checks();
    private static final int LEAST = Integer.MIN_VALUE;
    private static final int MOST = Integer.MAX_VALUE;
    // After two days the first judge's cushion has the feather of p, the second one's that of q, the third one's none.
    private static final String THREE = "judge a 50 0;judge b 50 0;judge c 50 0;beat 0;law say not(grave>lean);"
            + "cause p a 1 10;cause q b 1 20;cause r c 99 30;";

    public static void main(String[] args) {
        promise31NoSuchOnes();
        promise31TwentyFour();
        promise31FeatherOrNone();
        promise32NoSuchOne();
        promise32TwentyFour();
        promise32StrikesAreNumberedWithTheRest();
        promise33NoSuchN();
        promise33ByAllAlsoThoseToCome();
        promise33ByNoneAndByTwentyFour();
        promise33StrikesBehindN();
        promise33StruckStrikes();
        promise34Judges();
        promise34NoWay();
        promise34AsTheyAreNow();
        promise35NoSuchJudge();
        promise35Bits();
        promise35OneWay();
        promise35NoWay();
        CHECKS.end("FoundEdgesTest");
    }

    private static void due(String what, long got, long want) {
        CHECKS.due(what, got, want);
    }

    private static void due(String what, boolean got, boolean want) {
        CHECKS.due(what, got, want);
    }

    // 31: "NONE: no such ones".
    private static void promise31NoSuchOnes() {
        CushionCourt court = Checks.court(THREE, 2);
        int[] wrong = {-1, 3, LEAST, MOST};
        for (int one : wrong) {
            due("31 no such case " + one, court.find(one, 0, true), -1);
            due("31 no such judge " + one, court.find(0, one, false), -1);
            due("31 neither " + one, court.find(one, one, true), -1);
        }
        due("31 refused: nothing is found", court.count(10), 0);
        due("31 the first ones", court.find(0, 0, true), 0);
        due("31 the last ones", court.find(2, 2, false), 1);
        due("31 of none", new CushionCourt().find(0, 0, true), -1);
    }

    // 31: "FOUND, at most 24, numbered from 0 on"; "NONE: .. or there are 24".
    private static void promise31TwentyFour() {
        CushionCourt court = Checks.court(THREE, 2);
        for (int i = 0; i < 24; i++) {
            due("31 found " + i, court.find(0, 0, true), i);
        }
        due("31 a 25th", court.find(0, 0, true), -1);
        due("31 a 25th that isn't so", court.find(0, 0, false), -1);
        due("31 still 24", court.count(10), 24);
        due("31 the 25th is of no account", court.ways(), 2);
        Checks.tell(court, THREE);
        due("31 behind a new text", court.find(0, 0, true), 0);
    }

    // 31: "there is a FEATHER of a CASE, or none".
    private static void promise31FeatherOrNone() {
        String[] what = {"p is found", "p is missed", "r is found", "r is missed"};
        long[] ways = {2, 4, 0, 6};
        for (int i = 0; i < 4; i++) {
            CushionCourt court = Checks.court(THREE, 2);
            court.find(i < 2 ? 0 : 2, 0, i % 2 == 0);
            due("31 " + what[i], court.ways(), ways[i]);
        }
    }

    // 32: "NONE: no such one FOUND".
    private static void promise32NoSuchOne() {
        CushionCourt court = Checks.court(THREE, 2);
        due("32 nothing is found", court.strike(0), -1);
        court.find(0, 0, true);
        due("32 -1", court.strike(-1), -1);
        due("32 its own number", court.strike(1), -1);
        due("32 least", court.strike(LEAST), -1);
        due("32 most", court.strike(MOST), -1);
        due("32 refused: one is found", court.count(10), 1);
        due("32 the only one", court.strike(0), 1);
        due("32 the strike", court.strike(1), 2);
        due("32 again its own number", court.strike(3), -1);
        due("32 the first one again", court.strike(0), 3);
        due("32 of none", new CushionCourt().strike(0), -1);
    }

    // 32: "NONE: .. or there are 24".
    private static void promise32TwentyFour() {
        CushionCourt court = Checks.court(THREE, 2);
        for (int i = 0; i < 23; i++) {
            court.find(0, 0, true);
        }
        due("32 the 24th", court.strike(22), 23);
        due("32 a 25th", court.strike(0), -1);
        due("32 a 25th of the last one", court.strike(23), -1);
        due("32 behind the 24th", court.strike(24), -1);
        due("31 a 25th behind a strike", court.find(0, 0, true), -1);
        due("32 24", court.count(10), 24);
    }

    // A STRIKE is one of those FOUND: it has a number, and may be struck.
    private static void promise32StrikesAreNumberedWithTheRest() {
        CushionCourt court = Checks.court(THREE, 2);
        due("32 found 0", court.find(0, 1, true), 0);
        due("32 strike 1", court.strike(0), 1);
        due("32 found 2", court.find(1, 0, true), 2);
        due("32 strike 3", court.strike(2), 3);
        due("32 four", court.count(10), 4);
        due("32 both are struck", court.ways(), 6);
    }

    // 33: "(-1: by all ..)"; "false: no such n".
    private static void promise33NoSuchN() {
        CushionCourt court = Checks.court(THREE, 2);
        due("33 0 of none", court.known(0), true);
        due("33 1 of none", court.known(1), false);
        due("33 -1 of none", court.known(-1), true);
        due("33 -2 of none", court.known(-2), false);
        court.find(0, 0, true);
        court.find(1, 1, true);
        due("33 as many as there are", court.known(2), true);
        due("33 one more", court.known(3), false);
        due("33 -2", court.known(-2), false);
        due("33 least", court.known(LEAST), false);
        due("33 most", court.known(MOST), false);
        due("33 refused: by two still", court.count(11), 2);
        court.known(1);
        court.known(3);
        due("33 refused: by one still", court.count(11), 1);
        due("33 of a new object", new CushionCourt().known(0), true);
        due("33 of a new object, one", new CushionCourt().known(1), false);
    }

    // 33: "-1: by all, also those to come"; as many as there are isn't that.
    private static void promise33ByAllAlsoThoseToCome() {
        CushionCourt all = Checks.court(THREE, 2);
        due("33 all at first", all.ways(), 6);
        all.find(0, 0, true);
        due("33 all at first, one found", all.ways(), 2);
        all.known(0);
        all.known(-1);
        all.find(0, 1, true);
        due("33 by all, one to come", all.ways(), 0);
        due("33 by all, count", all.count(11), 2);
        CushionCourt some = Checks.court(THREE, 2);
        some.find(0, 0, true);
        some.known(1);
        some.find(0, 1, true);
        due("33 by one, one to come", some.ways(), 2);
        due("33 by one, count", some.count(11), 1);
        CushionCourt none = Checks.court(THREE, 2);
        none.known(0);
        none.find(0, 1, true);
        due("33 by none, one to come", none.ways(), 6);
        due("33 by none, count", none.count(11), 0);
    }

    // 33: n of 0 and n of 24.
    private static void promise33ByNoneAndByTwentyFour() {
        CushionCourt court = Checks.court(THREE, 2);
        for (int i = 0; i < 23; i++) {
            court.find(0, 0, true);
        }
        court.find(0, 0, false);
        due("33 by 24", court.known(24), true);
        due("33 by 24, ways", court.ways(), 0);
        due("33 by 25", court.known(25), false);
        due("33 by 23", court.known(23), true);
        due("33 by 23, ways", court.ways(), 2);
        due("33 by none", court.known(0), true);
        due("33 by none, ways", court.ways(), 6);
    }

    // "the first n that aren't STRUCK by one of these": a STRIKE that isn't of the first n doesn't count.
    private static void promise33StrikesBehindN() {
        CushionCourt court = Checks.court(THREE, 2);
        court.find(0, 0, true);
        court.find(1, 0, true);
        court.strike(1);
        court.known(2);
        due("33 the strike is behind n", court.ways(), 0);
        court.known(3);
        due("33 the strike is of the first n", court.ways(), 2);
    }

    // "(a STRIKE may be STRUCK: then it doesn't count; asked from the last one on)".
    private static void promise33StruckStrikes() {
        CushionCourt court = Checks.court(THREE, 2);
        court.find(2, 0, true);
        due("33 found", court.ways(), 0);
        for (int i = 0; i < 23; i++) {
            court.strike(i);
            due("33 strikes one behind another, " + (i + 1), court.ways(), i % 2 == 0 ? 6 : 0);
        }
        for (int n = 1; n <= 24; n++) {
            court.known(n);
            due("33 the first " + n, court.ways(), n % 2 == 0 ? 6 : 0);
        }
        CushionCourt twice = Checks.court(THREE, 2);
        twice.find(2, 0, true);
        twice.strike(0);
        twice.strike(0);
        twice.strike(1);
        due("33 struck twice, one strike struck", twice.ways(), 6);
        twice.strike(2);
        due("33 struck twice, both strikes struck", twice.ways(), 0);
    }

    // 34: "all ways to deal out the CUSHIONS": none, one, five judges.
    private static void promise34Judges() {
        long[] ways = {1, 1, 2, 6, 24, 120};
        StringBuilder text = new StringBuilder();
        for (int many = 0; many <= 5; many++) {
            due("34 ways of " + many, Checks.court(text.toString()).ways(), ways[many]);
            text.append("judge ").append((char) ('a' + many)).append(" 1 1;");
        }
        due("34 ways of a new object", new CushionCourt().ways(), 1);
    }

    // 34: "by which all KNOWN ones are so: how many": there may be none.
    private static void promise34NoWay() {
        CushionCourt one = Checks.court("judge a 50 0;law say not(grave>lean);cause p a 1 10;", 2);
        due("34 the only way", one.find(0, 0, true) + one.ways(), 1);
        one.find(0, 0, false);
        due("34 no way", one.ways(), 0);
        CushionCourt court = Checks.court(THREE, 2);
        court.find(0, 0, true);
        court.find(0, 1, true);
        due("34 one cushion can't be two judges'", court.ways(), 0);
        CushionCourt missed = Checks.court(THREE, 2);
        missed.find(0, 0, false);
        missed.find(0, 1, false);
        due("34 so it is the third one's", missed.ways(), 2);
        missed.find(0, 2, false);
        due("34 nobody's", missed.ways(), 0);
    }

    // 34: "the CUSHIONS as they are now".
    private static void promise34AsTheyAreNow() {
        CushionCourt court = Checks.court(THREE, 1);
        court.find(0, 0, true);
        due("34 no feather yet", court.ways(), 0);
        court.days(1);
        due("34 the feather is there", court.ways(), 2);
        court.restuff(0);
        due("34 no feather any more", court.ways(), 0);
        court.undo();
        due("34 it is there again", court.ways(), 2);
    }

    // 35: "NONE: no such JUDGE".
    private static void promise35NoSuchJudge() {
        CushionCourt court = Checks.court(THREE, 2);
        int[] wrong = {-1, 3, LEAST, MOST};
        for (int judge : wrong) {
            due("35 no such judge " + judge, court.whose(judge), -1);
        }
        due("35 the first", court.whose(0), 7);
        due("35 the last", court.whose(2), 7);
        due("35 of none", new CushionCourt().whose(0), -1);
    }

    // 35: "who has now what may be rightly its own (bits of JUDGES)", up to the fifth one.
    private static void promise35Bits() {
        CushionCourt court = Checks.court("judge a 50 0;judge b 50 0;judge c 50 0;judge d 50 0;judge e 50 0;beat 0;"
                + "law say not(grave>lean);cause p e 1 10;", 2);
        due("35 all five", court.whose(4), 31);
        court.find(0, 0, true);
        due("35 the fifth alone", court.whose(0), 16);
        due("35 all but the fifth", court.whose(4), 15);
        court.exchange(0, 4);
        due("35 who has it now", court.whose(0), 1);
        due("35 who has the others now", court.whose(4), 30);
        due("34 ways", court.ways(), 24);
    }

    // 35: just one way for each: two judges of whom nothing is found, three of whom all is.
    private static void promise35OneWay() {
        CushionCourt two = Checks.court("judge a 1 1;judge b 1 1;");
        due("35 one way for each of two", two.whose(0), 3);
        due("35 one way for each of two, the other", two.whose(1), 3);
        due("35 one judge", Checks.court("judge a 1 1;").whose(0), 1);
        CushionCourt court = Checks.court(THREE, 2);
        court.find(0, 1, true);
        court.find(1, 2, true);
        due("34 the only way", court.ways(), 1);
        due("35 the only way, first", court.whose(0), 4);
        due("35 the only way, second", court.whose(1), 1);
        due("35 the only way, third", court.whose(2), 2);
    }

    // 35: no way at all: nobody's, of each judge, also of one of whom nothing is found.
    private static void promise35NoWay() {
        CushionCourt court = Checks.court(THREE, 2);
        court.find(2, 0, true);
        for (int judge = 0; judge < 3; judge++) {
            due("35 no way, judge " + judge, court.whose(judge), 0);
        }
        court.strike(0);
        due("35 a way again", court.whose(1), 7);
    }
}
