/** Promises 17 to 27, 29, 30 and 36 to 38: what comes, what is best, what might be. */
public final class AskedPromisesTest {
    private static final Checks CHECKS = new Checks();

    // Ann thinks p, r and t not guilty, but says guilty, being stiff and near; q she thinks and says guilty.
    private static final String ANN = "judge ann 40 6;judge bob 70 0;cause p ann 0 35;cause q ann 1 45;"
            + "cause r ann 2 38;cause s bob 7 60;cause t ann 9 31;"
            + "clerk kim 1 9;clerk leo 1 0;clerk mia 2 9;clerk ned 127 1;";
    private static final String HELD = ANN + "beat 0;";
    private static final String CONTRARY = "law say not (grave>lean);";
    // One judge who says the contrary of what it thinks, and ten cases on a Tuesday.
    private static final String TEN = "judge a 50 0;" + CONTRARY
            + "cause a a 1 10;cause b a 1 11;cause c a 1 12;cause d a 1 13;cause e a 1 14;"
            + "cause f a 1 15;cause g a 1 16;cause h a 1 17;cause i a 1 90;cause j a 1 91;";

    public static void main(String[] args) {
        promise17();
        promise18();
        airingOfOthers();
        promise19();
        promise20();
        promise21();
        promise22();
        promise23();
        promise24And25();
        promise26();
        promise27();
        promise29();
        promise30();
        promise36();
        promise37();
        promise38();
        CHECKS.end("AskedPromisesTest");
    }

    private static void due(String what, long got, long want) {
        CHECKS.due(what, got, want);
    }

    private static long[] aheads(CushionCourt court, int n) {
        return new long[] {court.ahead(n, 0), court.ahead(n, 1), court.ahead(n, 2), court.ahead(n, 3)};
    }

    private static void promise17() {
        CushionCourt court = Checks.court(ANN);
        CHECKS.row("17 no day", aheads(court, 0), 0, 0, 0, 0);
        CHECKS.row("17 a day", aheads(court, 1), 1, 1, 0, 1);
        CHECKS.row("17 a week", aheads(court, 7), 3, 1, 0, 1);
        CHECKS.row("17 with the next Monday", aheads(court, 8), 3, 2, 0, 2);
        CHECKS.row("17 most days", aheads(court, 99), 4, 3, 0, 3);
        due("17 nothing went by", court.count(4) + court.count(5), 0);
        court.days(1);
        CHECKS.row("17 more than now", aheads(court, 7), 2, 1, 0, 1);
        CHECKS.row("17 lost", aheads(Checks.court(TEN + "beat 3;"), 8), 8, 0, 2, 3);
        court.keepIn(0, true);
        CHECKS.row("17 kept in", aheads(court, 99), 3, 0, 0, 0);
        due("17 too many days", court.ahead(100, 0), -1);
        due("17 days below", court.ahead(-1, 0), -1);
        due("17 no such what", court.ahead(1, 4), -1);
        due("17 what below", court.ahead(1, -1), -1);
    }

    // On the Monday of day 14 the feather of q lies on that of p, and the deaf clerk hears nothing.
    private static final String TWO = "judge a 50 0;judge b 50 0;cause p a 1 10;cause q a 8 11;beat 1;" + CONTRARY;

    private static void promise18() {
        CushionCourt court = Checks.court(TWO + "clerk k 1 0;", 2);
        due("18 one Monday", court.airing(1, 0), 0);
        due("18 one Monday, heard", court.airing(1, 5), 1);
        due("18 two Mondays", court.airing(2, 0), 1);
        due("18 two Mondays, an empty one", court.airing(2, 1), 0);
        due("18 two Mondays, heard", court.airing(2, 5), 0);
        due("18 the first of several", court.airing(4, 0), 1);
        due("18 not so many", court.airing(2, 2), -2);
        due("18 not so many, last", court.airing(2, 4), -2);
        due("18 no such what", court.airing(2, 6), -1);
        due("18 what below", court.airing(2, -1), -1);
        due("18 no Monday", court.airing(0, 4), -1);
        due("18 too many", court.airing(5, 0), -1);
        court.keepIn(0, true);
        due("18 kept in or not", court.airing(1, 5), 1);
        due("18 kept in or not, which", court.airing(2, 0), 1);
        court.keepIn(0, false);
        court.exchange(0, 1);
        due("18 by cushions: the one with a feather", court.airing(2, 0), 0);
        due("18 by cushions: the other one", court.airing(2, 1), 0);
        due("18 by cushions: heard", court.airing(2, 5), 1);
        due("18 today's Monday is empty", Checks.court(TWO + "clerk k 1 0;").airing(3, 5), 0);
        due("18 today's Monday", Checks.court(TWO + "clerk k 1 0;", 7).airing(1, 5), 1);
        due("18 today's Monday and the next", Checks.court(TWO + "clerk k 1 0;", 7).airing(2, 0), 1);
    }

    private static void airingOfOthers() {
        CushionCourt court = Checks.court(TWO + "clerk k 1 9;clerk l 127 1;clerk m 126 9;", 2);
        due("18 each clerk and case is one", court.airing(1, 5), 2);
        due("18 as few as before", court.airing(2, 5), 2);
        CushionCourt more = Checks.court("judge a 50 0;judge b 50 0;cause p a 1 10;cause q b 1 10;cause r b 8 10;beat 9;"
                + CONTRARY + "clerk k 1 9;clerk l 1 0;", 2);
        due("18 a: both Mondays alike", more.airing(2, 0), 0);
        due("18 b: later two would be heard", more.airing(2, 1), 0);
        due("18 heard of both", more.airing(2, 5), 4);
    }

    private static void promise19() {
        CushionCourt court = Checks.court(ANN);
        due("19 today", court.away(), 11);
        court.days(1);
        due("19 next Monday", court.away(), 11);
        court.keepIn(0, true);
        due("19 kept in", court.away(), 0);
        court.keepIn(0, false);
        court.days(7);
        due("19 what is still to come", court.away(), 11);
        court.days(7);
        due("19 nothing more", court.away(), 0);
        due("19 by ears", Checks.court(TEN + "clerk k 1 6;clerk l 1 7;clerk m 126 9;", 2).away(), 2);
    }

    private static long[] giving(CushionCourt court) {
        long[] answers = new long[7];
        for (int i = 0; i < 7; i++) {
            answers[i] = court.given(i);
        }
        return answers;
    }

    private static void promise20() {
        String two = "judge a 10 0;judge b 50 0;";
        CHECKS.row("20 nearest in sum",
                giving(Checks.court(two + "cause p a 1 10;cause q a 1 12;cause r a 2 14;cause s a 3 50;")),
                0, 0, 1, 1, -2, -2, 38);
        CHECKS.row("20 the first of several", giving(Checks.court("judge a 20 0;judge b 40 0;judge c 20 0;"
                + "cause p c 1 30;cause q c 1 30;cause r c 1 30;cause s c 1 20;")), 0, 0, 1, 2, -2, -2, 30);
        CHECKS.row("20 it can't be",
                giving(Checks.court(two + "cause p a 1 1;cause q a 1 1;cause r a 2 1;cause s a 3 5;cause t a 1 1;")),
                -3, -3, -3, -3, -3, -2, -3);
        String three = two + "judge c 90 0;";
        String eight = three + "cause a a 1 90;cause b a 0 90;cause c a 1 50;cause d a 1 50;cause e a 1 10;"
                + "cause f a 1 10;cause g a 1 90;cause h a 2 90;";
        CHECKS.row("20 the first six", giving(Checks.court(eight)), 2, 2, 1, 1, 0, 0, 0);
        CHECKS.row("20 less what was heard", giving(Checks.court(eight, 1)), 2, 1, 1, 0, 0, 2, 0);
        CHECKS.row("20 one to come", giving(Checks.court(eight, 2)), 2, -2, -2, -2, -2, -2, 0);
        CHECKS.row("20 none to come", giving(Checks.court(eight, 3)), -2, -2, -2, -2, -2, -2, 0);
        due("20 no such what", Checks.court(eight).given(7), -1);
        due("20 what below", Checks.court(eight).given(-1), -1);
        due("20 what far below", Checks.court(eight).given(Integer.MIN_VALUE), -1);
        due("20 what far above", Checks.court(eight).given(Integer.MAX_VALUE), -1);
        CushionCourt five = Checks.court("judge a 1 0;judge b 2 0;judge c 3 0;judge d 4 0;judge e 5 0;cause a a 1 5;"
                + "cause b a 1 5;cause c a 1 5;cause d a 1 4;cause e a 1 4;cause f a 1 1;");
        CHECKS.row("20 five judges", giving(five), 2, 4, 4, 3, 3, 0, 2);
    }

    private static void promise21() {
        CushionCourt court = Checks.court("judge a 10 0;judge b 50 0;judge c 90 0;judge d 20 0;cause p a 1 60;"
                + "cause q a 1 5;cause r a 1 95;cause s a 1 30;");
        due("21 above", court.lot(0, 0), 3);
        due("21 below", court.lot(0, 1), 4);
        due("21 none", court.lot(1, 0), 0);
        due("21 none by one", court.lot(1, 1), 1);
        due("21 all", court.lot(2, 0), 1);
        due("21 all by one", court.lot(2, 1), 1);
        due("21 in least terms", 10 * court.lot(3, 0) + court.lot(3, 1), 12);
        due("21 no such case", court.lot(4, 0), -1);
        due("21 case below", court.lot(-1, 0), -1);
        due("21 no such what", court.lot(0, 2), -1);
        due("21 what below", court.lot(0, -1), -1);
        CushionCourt law = Checks.court("judge a 10 1;judge b 50 0;judge c 50 2;damp 2;damp 5;cause p a 0 60;beat 0;"
                + "law say 0;law think stiff<2 and moist=2 or plump=1 or stiff=2 and moist=5 and day=1;");
        due("21 by law, today", 10 * law.lot(0, 0) + law.lot(0, 1), 23);
        law.days(1);
        due("21 by law, by plump and damp of another day", 10 * law.lot(0, 0) + law.lot(0, 1), 23);
        law.exchange(0, 2);
        due("21 by law, by plump of the other", 10 * law.lot(0, 0) + law.lot(0, 1), 13);
    }

    private static void promise22() {
        CushionCourt court = Checks.court("judge a 50 0;judge b 60 0;law say lean=50;cause p a 0 10;cause q a 0 20;"
                + "cause r b 0 15;cause s b 0 30;cause t b 0 20;cause u b 1 90;cause v a 2 1;");
        due("22 none heard", court.clashes(), 0);
        court.days(1);
        due("22 clashes", court.clashes(), 4);
        court.days(1);
        due("22 one more", court.clashes(), 6);
        court.days(1);
        due("22 and with the least grave one", court.clashes(), 10);
    }

    private static void promise23() {
        CushionCourt court = Checks.court(ANN, 1);
        due("23 one of one", 10 * court.bold(0, 0) + court.bold(0, 1), 11);
        court.days(1);
        due("23 one of two", 10 * court.bold(0, 0) + court.bold(0, 1), 12);
        court.days(8);
        due("23 three of four", 10 * court.bold(0, 0) + court.bold(0, 1), 34);
        due("23 none of one", 10 * court.bold(1, 0) + court.bold(1, 1), 1);
        due("23 none heard", 10 * Checks.court(ANN).bold(1, 0) + Checks.court(ANN).bold(1, 1), 1);
        due("23 two of four", 10 * Checks.court(TEN, 2).bold(0, 0) + Checks.court(TEN, 2).bold(0, 1), 11);
        CushionCourt half = Checks.court("judge a 50 0;law say 0;cause p a 0 60;cause q a 0 10;cause r a 0 70;"
                + "cause s a 0 11;", 1);
        due("23 in least terms", 10 * half.bold(0, 0) + half.bold(0, 1), 12);
        due("23 no such judge", court.bold(2, 0), -1);
        due("23 judge below", court.bold(-1, 0), -1);
        due("23 no such what", court.bold(0, 2), -1);
        due("23 what below", court.bold(0, -1), -1);
    }

    private static void rests(String what, CushionCourt court, int feathers, long... want) {
        due(what + " feathers", court.judge(0, 3), feathers);
        due(what + " how many", court.rests(0), want.length);
        for (int i = 0; i < want.length; i++) {
            due(what + " [" + i + "]", court.rest(0, i), want[i]);
        }
        due(what + " not so many", court.rest(0, want.length), -2);
    }

    private static void promise24And25() {
        rests("24 of none", Checks.court(HELD), 0, 0);
        rests("24 of one", Checks.court(HELD, 1), 1, 0, 1, 10);
        rests("24 of two", Checks.court(HELD, 3), 2, 0, 1, 10, 11);
        rests("24 of three", Checks.court(HELD, 10), 3);
        rests("24 of eight", Checks.court(TEN, 2), 8, 44);
        CushionCourt court = Checks.court(HELD, 3);
        due("24 no such judge", court.rests(2), -1);
        due("24 judge below", court.rests(-1), -1);
        due("25 no such judge", court.rest(2, 0), -1);
        due("25 judge below", court.rest(-1, 0), -1);
        due("25 k below", court.rest(0, -1), -1);
        court.exchange(0, 1);
        due("24 exchanged", court.rests(0), 1);
        due("25 exchanged", court.rest(1, 3), 11);
    }

    private static void promise26() {
        due("26 one a Monday", Checks.court(TEN, 2).empties(0), 8);
        due("26 three a Monday", Checks.court(TEN + "beat 3;", 2).empties(0), 3);
        due("26 never", Checks.court(TEN + "beat 0;", 2).empties(0), -2);
        due("26 it is empty now", Checks.court(TEN).empties(0), 0);
        due("26 today", Checks.court(TEN + "beat 9;", 7).empties(0), 1);
        due("26 by damp of the days", Checks.court(TEN + "beat 0;damp 0;damp 9;", 2).empties(0), 5);
        due("26 the twentieth", Checks.court(TEN + "law fly 8*(day>=140);", 2).empties(0), 20);
        due("26 not by then", Checks.court(TEN + "law fly 8*(day>=141);", 2).empties(0), -2);
        CushionCourt court = Checks.court(HELD.replace("beat 0", "beat 1"));
        court.keepIn(0, true);
        court.days(3);
        due("26 kept in or not", court.empties(0), 3);
        due("26 more comes meanwhile", court.judge(0, 3), 2);
        due("26 the other one is empty", court.empties(1), 0);
        court.exchange(0, 1);
        due("26 the cushion that it has now, and what goes elsewhere", court.empties(1), 2);
        due("26 no such judge", court.empties(2), -1);
        due("26 judge below", court.empties(-1), -1);
    }

    private static void promise27() {
        CushionCourt court = Checks.court(HELD);
        due("27 the first of several", court.plumpest(), 0);
        court.days(1);
        due("27 the plumpest", court.plumpest(), 0);
        court.exchange(0, 1);
        due("27 who has it", court.plumpest(), 1);
        court.days(2);
        due("27 alike", court.plumpest(), 0);
        due("27 no judge", new CushionCourt().plumpest(), -1);
    }

    private static void promise29() {
        CushionCourt court = Checks.court(ANN);
        due("29 today", court.learns(0, 1), 1);
        due("29 never", court.learns(2, 99), -2);
        court.days(1);
        due("29 not by then", court.learns(0, 6), -2);
        due("29 next Monday", court.learns(0, 7), 7);
        due("29 next Monday, of more days", court.learns(3, 99), 7);
        court.keepIn(0, true);
        due("29 kept in", court.learns(0, 99), -2);
        due("29 no such clerk", court.learns(4, 1), -1);
        due("29 clerk below", court.learns(-1, 1), -1);
        due("29 no day", court.learns(0, 0), -1);
        due("29 too many", court.learns(0, 100), -1);
    }

    private static void promise30() {
        CushionCourt court = Checks.court(HELD);
        due("30 now", court.plump(0, 0), 0);
        due("30 tomorrow", court.plump(0, 1), 1);
        due("30 in ten days", court.plump(0, 10), 3);
        due("30 most days", court.plump(0, 99), 3);
        court.days(1);
        court.exchange(0, 1);
        due("30 the cushion that it has now", court.plump(1, 9), 1);
        due("30 the other one", court.plump(0, 9), 2);
        due("30 no such judge", court.plump(2, 0), -1);
        due("30 judge below", court.plump(-1, 0), -1);
        due("30 too many", court.plump(0, 100), -1);
        due("30 days below", court.plump(0, -1), -1);
        CushionCourt aired = Checks.court(ANN);
        due("30 aired", aired.plump(0, 1), 0);
        due("30 aired, later", aired.plump(0, 3), 1);
        due("30 aired again", aired.plump(0, 8), 0);
    }

    private static void promise36() {
        due("36 nothing heard", Checks.court(ANN).leans(0), 1023);
        // 35, 45 and 38 guilty: below lean 35 all are above, at 40 all are near, at 50 38 is far.
        due("36 by what was said", Checks.court(ANN, 3).leans(0), 31);
        // 60 not guilty of one not stiff: lean is 60 at least.
        due("36 not guilty", Checks.court(ANN, 8).leans(1), 0b1111000000);
        due("36 by law", Checks.court("judge a 40 0;cause p a 1 5;law say lean<50;", 2).leans(0), 31);
        due("36 by sure", Checks.court("judge a 40 0;cause p a 1 50;law say sure<=10;", 2).leans(0), 0b1110000);
        due("36 by thought, where say has an error",
                Checks.court("judge a 40 0;cause p a 1 50;law say 1/0;law think lean=40 or lean=90;", 2).leans(0), 528);
        CushionCourt days = Checks.court("judge a 40 0;cause p a 1 5;damp 2;damp 7;damp 1;law say moist=7 and day=1;", 5);
        due("36 damp and day of its day", days.leans(0), 1023);
        due("36 plump 0", Checks.court("judge a 40 0;cause p a 1 5;cause q a 1 6;law say plump=0;", 2).leans(0), 0);
        due("36 no such judge", days.leans(1), -1);
        due("36 judge below", days.leans(-1), -1);
    }

    /** How many of ten times the number of one of n days, by 3, cut, is enough. */
    private static int enough(long seed, int n, int which, int out) {
        long last = seed;
        int times = 0;
        for (int i = 0; i < 10; i++) {
            for (int k = 0; k < n; k++) {
                last = (last * 1103515245L + 12345L) % 2147483648L;
                if (k == which && last / 65536 % 10 / 3 >= out) {
                    times++;
                }
            }
        }
        return times;
    }

    private static void promise37() {
        // Numbers from 0 on: 0, 21468, 9988, 22117, 3498, 16927, 16045, 19741, 12122, 8410.
        CushionCourt monday = Checks.court(TEN + "beat 0;damp 9;", 7);
        due("37 at least one", monday.chance(0, 1, 1), 6);
        due("37 at least two", monday.chance(0, 1, 2), 5);
        due("37 at least three", monday.chance(0, 1, 3), 0);
        due("37 at least none", monday.chance(0, 1, 0), 10);
        due("37 far more", monday.chance(0, 1, 99), 0);
        CushionCourt sunday = Checks.court(TEN + "beat 0;damp 9;", 6);
        for (int out = 0; out <= 4; out++) {
            for (int seed = 1; seed < 2000000000; seed += 123456789) {
                due("37 Monday " + seed, monday.chance(seed, 1, out), enough(seed, 1, 0, out));
                due("37 Monday of five days " + seed, monday.chance(seed, 5, out), enough(seed, 5, 0, out));
                due("37 Sunday " + seed, sunday.chance(seed, 2, out), enough(seed, 2, 1, out));
            }
            due("37 last seed", monday.chance(2147483647, 1, out), enough(2147483647, 1, 0, out));
        }
        due("37 a number a day of the damp that is seen", Checks.court(TEN + "law fly 8*(moist>=0);", 7).chance(5, 1, 8),
                10);
        due("37 seed below", monday.chance(-1, 1, 1), -1);
        due("37 no day", monday.chance(1, 0, 1), -1);
        due("37 too many days", monday.chance(1, 100, 1), -1);
        due("37 out below", monday.chance(1, 1, -1), -1);
        due("37 out too many", monday.chance(1, 1, 100), -1);
        due("37 nothing went by", monday.count(4) + monday.count(8), 7);
    }

    private static long[] tries(CushionCourt court, int n) {
        return new long[] {court.ahead(n, 3), court.tried(0, 0, n), court.tried(1, 0, n), court.tried(2, 0, n),
            court.tried(3, 0, n), court.tried(4, 0, n)};
    }

    private static void promise38() {
        CushionCourt court = Checks.court(TEN + "beat 1;damp 6;", 2);
        CHECKS.row("38 no day", tries(court, 0), 0, 0, 0, 0, 0, 0);
        CHECKS.row("38 not yet", tries(court, 5), 0, 0, 0, 0, 0, 0);
        CHECKS.row("38 a Monday", tries(court, 6), 3, 3, 1, 3, 3, 8);
        court.keepIn(0, true);
        CHECKS.row("38 kept in", tries(court, 6), 0, 3, 0, 0, 0, 0);
        CHECKS.row("38 before anything is heard", tries(Checks.court(TEN + "beat 1;damp 6;"), 8), 3, 3, 1, 0, 0, 8);
        CHECKS.row("38 by laws", tries(Checks.court(TEN + "law fly moist;damp 6;beat 1;"), 8), 6, 6, 0, 0, 0, 6);
        CushionCourt two = Checks.court("judge a 50 0;judge b 50 0;cause p a 1 10;cause q b 1 10;cause r b 2 10;beat 9;"
                + CONTRARY);
        due("38 the first hears nothing", two.tried(2, 0, 8), 2);
        due("38 the second hears nothing", two.tried(2, 1, 8), 1);
        due("38 no such judge", two.tried(2, 2, 8), -1);
        due("38 judge below", two.tried(2, -1, 8), -1);
        due("38 i of another", two.tried(0, 1, 8), -1);
        due("38 i of the last", two.tried(4, 1, 8), -1);
        due("38 no such what", two.tried(5, 0, 8), -1);
        due("38 what below", two.tried(-1, 0, 8), -1);
        due("38 too many", two.tried(0, 0, 100), -1);
        due("38 days below", two.tried(0, 0, -1), -1);
        due("38 as it was", two.ahead(8, 3), 3);
        CHECKS.row("38 days go by as told behind it", new long[] {two.days(8), two.count(8)}, 8, 3);
    }
}
