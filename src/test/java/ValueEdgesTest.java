/** Boundary cases of VALUES of E (Terms, ==== 1 and ==== 2), as promise 11 (law) answers them and DAYS use them. */
public final class ValueEdgesTest {
    private static final Checks CHECKS = new Checks();
    private static final String TRILLION = "1000*1000*1000*1000";
    private static final long FARTHEST = 1000000000000L;

    public static void main(String[] args) {
        nextOfEach();
        oneOrZero();
        whatIsNotZero();
        bothSides();
        cutTowardsZero();
        byZero();
        aboveTheFarthest();
        belowTheFarthest();
        farProducts();
        errorOfAPart();
        noRepeats();
        manyRepeats();
        namesAtTheirEnds();
        plumpFromNoneToEight();
        namesOfFly();
        thinkAtTheError();
        sayAtTheError();
        CHECKS.end("ValueEdgesTest");
    }

    private static void due(String e, long want) {
        CHECKS.due("11 " + e, Checks.court("judge a 40 6;damp 3;law fly " + e + ";").law(2, 0), want);
    }

    private static void error(String e) {
        due(e, Checks.ERROR);
    }

    // "E: A { or A }. A: B { and B }. .. T: P { ( * | / ) P }": each one next to the one that binds more.
    private static void nextOfEach() {
        due("1 or 0 and 0", 1);
        due("0 and 0 or 1", 1);
        due("(1 or 0) and 0", 0);
        due("0 and (0 or 1)", 0);
        due("not 0 and 0", 0);
        due("not (0 and 0)", 1);
        due("not 1 or 1", 1);
        due("not (1 or 1)", 0);
        due("not 1 < 1", 1);
        due("not 2 = 0", 1);
        due("(not 2) = 0", 1);
        due("not 3 = 1", 1);
        due("(not 3) = 1", 0);
        due("1 < 1 + 1", 1);
        due("(1 < 1) + 1", 1);
        due("2 + 1 < 3", 0);
        due("2 + (1 < 3)", 3);
        due("2 + 3 * 4", 14);
        due("(2 + 3) * 4", 20);
        due("2 * 3 + 4", 10);
        due("9 - 8 / 4", 7);
        due("9 - 3 - 2", 4);
        due("9 - (3 - 2)", 8);
        due("16 / 4 / 2", 2);
        due("16 / (4 / 2)", 8);
        due("16 / 4 * 2", 8);
    }

    // "comparisons, and, or, not are 1 or 0": just below, alike and just above.
    private static void oneOrZero() {
        String[] signs = {"<", "<=", "=", "<>", ">=", ">"};
        long[][] want = {{1, 0, 0}, {1, 1, 0}, {0, 1, 0}, {1, 0, 1}, {0, 1, 1}, {0, 0, 1}};
        for (int i = 0; i < signs.length; i++) {
            for (int k = 0; k < 3; k++) {
                due((4 + k) + signs[i] + "5", want[i][k]);
                due("0-" + (6 - k) + signs[i] + "0-5", want[i][k]);
            }
        }
        due(TRILLION + "=" + TRILLION, 1);
        due(TRILLION + "-1<" + TRILLION, 1);
        due("0-" + TRILLION + "<" + TRILLION, 1);
    }

    // "what isn't 0 is as 1".
    private static void whatIsNotZero() {
        String[] sides = {"0", "1", "2", "(0-1)", "9999", "(0-" + TRILLION + ")"};
        for (int i = 0; i < sides.length; i++) {
            due("not " + sides[i], i == 0 ? 1 : 0);
            due("not not " + sides[i], i == 0 ? 0 : 1);
            for (int k = 0; k < sides.length; k++) {
                due(sides[i] + " and " + sides[k], i > 0 && k > 0 ? 1 : 0);
                due(sides[i] + " or " + sides[k], i > 0 || k > 0 ? 1 : 0);
            }
        }
    }

    // "both sides are worked out": an ERROR of a side that wouldn't matter counts.
    private static void bothSides() {
        error("0 and 1/0");
        error("1/0 and 0");
        error("1 or 1/0");
        error("1/0 or 1");
        due("0 and 1/1", 0);
        due("1 or 0/1", 1);
    }

    // "/ is cut towards 0".
    private static void cutTowardsZero() {
        due("6/3", 2);
        due("8/3", 2);
        due("9/3", 3);
        due("2/3", 0);
        due("(0-8)/3", -2);
        due("(0-9)/3", -3);
        due("(0-2)/3", 0);
        due("8/(0-3)", -2);
        due("(0-8)/(0-3)", 2);
        due("2/(0-3)", 0);
    }

    // "ERROR: / by 0".
    private static void byZero() {
        error("1/0");
        error("0/0");
        error("1/(1-1)");
        error("1/(1<1)");
        due("1/1", 1);
        due("0/1", 0);
        due("1/(0-1)", -1);
        error(TRILLION + "/0");
        error("9/plump");
    }

    // "ERROR: .. a value above 10 to the 12".
    private static void aboveTheFarthest() {
        due(TRILLION, FARTHEST);
        error(TRILLION + "+1");
        due(TRILLION + "+0", FARTHEST);
        due(TRILLION + "-1+1", FARTHEST);
        error(TRILLION + "+1-1");
        error(TRILLION + "-(0-1)");
        due("1000*1000*(1000*1000)", FARTHEST);
        due("(1000*1000+1)*(1000*1000-1)", FARTHEST - 1);
        error("(1000*1000+1)*(1000*1000)");
        due("(0-1000*1000)*(0-1000*1000)", FARTHEST);
        error("(0-1000*1000)*(0-1000*1000-1)");
        due(TRILLION + "/1", FARTHEST);
        due("(0-" + TRILLION + ")/(0-1)", FARTHEST);
    }

    // "ERROR: .. or below 0 by more than that".
    private static void belowTheFarthest() {
        due("0-" + TRILLION, -FARTHEST);
        error("0-" + TRILLION + "-1");
        error("0-1-" + TRILLION);
        due("0-" + TRILLION + "-0", -FARTHEST);
        due("1-" + TRILLION + "-1", -FARTHEST);
        error("0-" + TRILLION + "+(0-1)");
        due("(0-1000*1000)*(1000*1000)", -FARTHEST);
        error("(0-1000*1000)*(1000*1000+1)");
        error("(1000*1000+1)*(0-1000*1000)");
        due("(0-1)*(" + TRILLION + ")", -FARTHEST);
        due(TRILLION + "*(0-1)", -FARTHEST);
        due(TRILLION + "/(0-1)", -FARTHEST);
    }

    // VALUES are longs: products that would wrap around are above 10 to the 12, too.
    private static void farProducts() {
        error("(" + TRILLION + ")*(" + TRILLION + ")");
        error("(0-" + TRILLION + ")*(" + TRILLION + ")");
        error("(0-" + TRILLION + ")*(0-" + TRILLION + ")");
        // 2 to the 32 times itself is 0 as a long.
        error("(256*256*256*256)*(256*256*256*256)");
        error("(256*256*256*128)*(256*256*256*256)");
        error("(256*256*256*128)*(256*256*256*256)*2");
        due("0*(" + TRILLION + ")", 0);
        due(TRILLION + "*0", 0);
        due("1*(" + TRILLION + ")", FARTHEST);
        error("2*(" + TRILLION + ")");
        due("9999*9999*9999", 999700029999L);
        error("9999*9999*9999*2");
    }

    // An ERROR of a part is one of the whole, whatever is done with it.
    private static void errorOfAPart() {
        error("0*(1/0)");
        error("not 1/0");
        error("1/0=1/0");
        error("1<2/0");
        error("(1/0)-(1/0)");
        error("0/(1/0)");
        error("0*(" + TRILLION + "+1)");
        error("not " + TRILLION + "+1");
        error("0<" + TRILLION + "+1");
    }

    // "E: A { or A }" and the others: what is repeated may be left out.
    private static void noRepeats() {
        due("7", 7);
        due("(7)", 7);
        due("((((((((7))))))))", 7);
        due("0", 0);
        due("9999", 9999);
        due("0009", 9);
    }

    // "S: T { ( + | - ) T }": as often as there are KNOTS, from the left on.
    private static void manyRepeats() {
        due("1" + Checks.times("+1", 31), 32);
        due("9" + Checks.times("-1", 31), -22);
        due("9999" + Checks.times("/2", 13), 1);
        due("9999" + Checks.times("/2", 14), 0);
        due("1" + Checks.times("*2", 31), 2147483648L);
        due("0" + Checks.times(" or 0", 30) + " or 5", 1);
        due("1" + Checks.times(" and 1", 30) + " and 0", 0);
        due(Checks.times("not ", 63) + "0", 1);
        due(Checks.times("not ", 62) + "0", 0);
    }

    // NAMES with the least and the greatest numbers that a text may tell.
    private static void namesAtTheirEnds() {
        CushionCourt court = Checks.court("judge a 99 9;judge b 0 0;cause p a 0 0;cause q b 0 99;cause r b 9 0;"
                + "damp 9;damp 0;law think lean*100*100+stiff*1000+moist*100+sure;law say grave*100+day;");
        CHECKS.due("11 lean 99, stiff 9, moist 9, sure 99", court.law(0, 0), 999999);
        CHECKS.due("11 lean 0, stiff 0, sure 99", court.law(0, 1), 999);
        CHECKS.due("11 lean 0, stiff 0, sure 0", court.law(0, 2), 900);
        CHECKS.due("11 grave 0, day 0", court.law(1, 0), 0);
        CHECKS.due("11 grave 99, day 0", court.law(1, 1), 9900);
        court.days(1);
        CHECKS.due("11 moist 0", court.law(0, 2), 0);
        CHECKS.due("11 day 1", court.law(1, 2), 1);
    }

    // "plump: how many FEATHERS its CUSHION has": none, eight, and eight still with more.
    private static void plumpFromNoneToEight() {
        StringBuilder text = new StringBuilder("judge a 50 0;judge b 50 0;law say not(grave>lean);law fly plump;");
        for (char name = 'a'; name < 'a' + 10; name++) {
            text.append("cause ").append(name).append(" a ").append(name - 'a').append(" 1;");
        }
        CushionCourt court = Checks.court(text.toString());
        court.keepIn(0, true);
        for (int day = 0; day <= 10; day++) {
            CHECKS.due("11 plump on day " + day, court.law(2, 0), Math.min(8, day));
            CHECKS.due("11 plump 0 of another on day " + day, court.law(2, 1), 0);
            court.days(1);
        }
        court.restuff(0);
        CHECKS.due("11 plump 0 again", court.law(2, 0), 0);
    }

    // "grave: .. (of fly 0)"; "sure: .. (of fly 0)".
    private static void namesOfFly() {
        CushionCourt names = Checks.court("judge a 40 6;judge b 0 0;judge c 99 9;law fly lean*10+stiff;");
        CHECKS.due("11 fly has lean and stiff", names.law(2, 0), 406);
        CHECKS.due("11 fly has lean 0 and stiff 0", names.law(2, 1), 0);
        CHECKS.due("11 fly has lean 99 and stiff 9", names.law(2, 2), 999);
        CushionCourt court = Checks.court("judge a 40 6;cause p a 0 90;damp 7;law fly grave*1000+sure*100+day;"
                + "law think grave*1000+sure*100+day;");
        CHECKS.due("11 think has grave and sure", court.law(0, 0), 95000);
        CHECKS.due("11 fly has neither", court.law(2, 0), 0);
        court.days(3);
        CHECKS.due("11 fly has day", court.law(2, 0), 3);
    }

    private static void verdict(String laws, int thought, int said) {
        CushionCourt court = Checks.court("judge a 40 5;cause p a 1 35;" + laws, 2);
        CHECKS.due("6 thought by " + laws, Checks.cause(court, 0, 3), thought);
        CHECKS.due("6 said by " + laws, Checks.cause(court, 0, 4), said);
    }

    // "THOUGHT: guilty, if E of think isn't 0 (GRAVE is above LEAN, without, with an ERROR)".
    private static void thinkAtTheError() {
        verdict("law think 0;law say 0;", 0, 0);
        verdict("law think 1;law say 0;", 1, 0);
        verdict("law think 0-1;law say 0;", 1, 0);
        verdict("law think " + TRILLION + ";law say 0;", 1, 0);
        verdict("law think " + TRILLION + "+1;law say 0;", 0, 0);
        verdict("law think 0-" + TRILLION + ";law say 0;", 1, 0);
        verdict("law think 0-" + TRILLION + "-1;law say 0;", 0, 0);
        verdict("law think 1/0;law say 0;", 0, 0);
        verdict("law think 1/1;law say 0;", 1, 0);
        verdict("law say 0;", 0, 0);
    }

    // "SAID: guilty, if E of say isn't 0 (without, with an ERROR: as THOUGHT, but ..)".
    private static void sayAtTheError() {
        verdict("law think 1;law say 0;", 1, 0);
        verdict("law think 0;law say 1;", 0, 1);
        verdict("law think 0;law say 0-1;", 0, 1);
        verdict("law think 1;law say 0/1;", 1, 0);
        verdict("law think 1;law say 0/0;", 1, 1);
        verdict("law think 0;law say 0/0;", 0, 1);
        verdict("law think 0;law say 0*(" + TRILLION + ");", 0, 0);
        verdict("law think 0;law say 0*(" + TRILLION + "+1);", 0, 1);
        verdict("law think 0;", 0, 1);
        verdict("law think 1;", 1, 1);
    }
}
