/** Promises 31 to 35: what is found and struck, by how many it is known, whose cushion may be whose. */
public final class FoundPromisesTest {
    private static final Checks CHECKS = new Checks();

    // Ann's cushion has the feathers of p and q, Bob's that of r, Cid's none.
    private static final String THREE = "judge ann 50 0;judge bob 50 0;judge cid 50 0;beat 0;law say not (grave>lean);"
            + "cause p ann 1 10;cause q ann 1 20;cause r bob 1 30;cause s cid 9 40;";

    public static void main(String[] args) {
        promise31();
        promise32();
        promise33();
        promise34();
        promise35();
        strikes();
        CHECKS.end("FoundPromisesTest");
    }

    private static void due(String what, long got, long want) {
        CHECKS.due(what, got, want);
    }

    private static void due(String what, boolean got, boolean want) {
        CHECKS.due(what, got, want);
    }

    private static void promise31() {
        CushionCourt court = Checks.court(THREE, 2);
        due("31 first", court.find(0, 0, true), 0);
        due("31 alike", court.find(0, 0, true), 1);
        due("31 no such case", court.find(4, 0, true), -1);
        due("31 case below", court.find(-1, 0, true), -1);
        due("31 no such judge", court.find(0, 3, true), -1);
        due("31 judge below", court.find(0, -1, true), -1);
        due("31 how many", court.count(10), 2);
        for (int i = 2; i < 24; i++) {
            due("31 next", court.find(3, i % 3, false), i);
        }
        due("31 there are 24", court.find(0, 0, true), -1);
        due("32 there are 24", court.strike(0), -1);
        due("31 24", court.count(10), 24);
    }

    private static void promise32() {
        CushionCourt court = Checks.court(THREE, 2);
        due("32 nothing found", court.strike(0), -1);
        court.find(0, 2, true);
        due("32 a strike", court.strike(0), 1);
        due("32 a strike of a strike", court.strike(1), 2);
        due("32 of itself", court.strike(3), -1);
        due("32 below", court.strike(-1), -1);
        due("32 how many", court.count(10), 3);
        due("32 found next", court.find(0, 2, true), 3);
    }

    private static void promise33() {
        CushionCourt court = Checks.court(THREE, 2);
        due("33 by none", court.known(0), true);
        due("33 no such n", court.known(1), false);
        due("33 below", court.known(-2), false);
        court.find(0, 0, true);
        due("33 by none still", court.count(11), 0);
        due("33 by one", court.known(1), true);
        court.find(2, 1, true);
        due("33 by one still", court.ways(), 2);
        due("33 a wrong n", court.known(3), false);
        due("33 leaves it", court.count(11), 1);
        due("33 by all", court.known(-1), true);
        due("33 two", court.count(11), 2);
        court.find(2, 1, false);
        due("33 those to come, too", court.ways(), 0);
        due("33 three", court.count(11), 3);
    }

    private static void promise34() {
        CushionCourt court = Checks.court(THREE, 2);
        due("34 all ways", court.ways(), 6);
        court.find(0, 0, true);
        due("34 by one found", court.ways(), 2);
        court.find(2, 1, false);
        due("34 by one missed", court.ways(), 1);
        court.find(3, 2, false);
        due("34 by one that is in none", court.ways(), 1);
        court.find(3, 2, true);
        due("34 no way", court.ways(), 0);
        due("34 no judge", new CushionCourt().ways(), 1);
        CushionCourt five = Checks.court("judge a 1 1;judge b 1 1;judge c 1 1;judge d 1 1;judge e 1 1;cause p a 9 9;");
        due("34 of five", five.ways(), 120);
        five.find(0, 0, false);
        due("34 of five, missed", five.ways(), 120);
        five.find(0, 3, true);
        due("34 of five, found", five.ways(), 0);
    }

    private static void promise35() {
        CushionCourt court = Checks.court(THREE, 2);
        due("35 any", court.whose(1), 7);
        court.find(0, 0, true);
        due("35 just its own", court.whose(0), 1);
        due("35 one of two", court.whose(1), 6);
        due("35 one of two, the last", court.whose(2), 6);
        court.find(2, 1, false);
        due("35 the other one's", court.whose(1), 4);
        due("35 what is left", court.whose(2), 2);
        court.exchange(0, 2);
        due("35 as they are now", court.whose(0), 4);
        due("35 as they are now, another", court.whose(1), 1);
        court.days(8);
        court.restuff(2);
        due("35 no way", court.whose(0), 0);
        due("35 no such judge", court.whose(3), -1);
        due("35 below", court.whose(-1), -1);
    }

    private static void strikes() {
        CushionCourt court = Checks.court(THREE, 2);
        court.find(0, 0, true);
        court.find(2, 1, false);
        due("strikes: both", court.ways(), 1);
        court.strike(1);
        due("strikes: one struck", court.ways(), 2);
        court.strike(2);
        due("strikes: the strike is struck", court.ways(), 1);
        court.strike(3);
        due("strikes: and that one", court.ways(), 2);
        court.strike(1);
        due("strikes: struck twice", court.ways(), 2);
        court.strike(4);
        due("strikes: still by the last one", court.ways(), 2);
        long[] ways = new long[8];
        for (int i = 0; i < 8; i++) {
            court.known(i);
            ways[i] = court.ways();
        }
        CHECKS.row("strikes: by the first ones", ways, 6, 2, 1, 2, 1, 2, 2, 2);
        court.known(-1);
        court.strike(0);
        due("strikes: nothing is left", court.ways(), 6);
    }
}
