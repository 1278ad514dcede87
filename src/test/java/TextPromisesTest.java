/** Promises 1 to 5, 10 and 11: the tape, the text and its faults, names, damp, laws. */
public final class TextPromisesTest {
    private static final Checks CHECKS = new Checks();

    public static void main(String[] args) {
        promise1();
        promise2();
        promise3();
        promise4();
        faultsOfTokens();
        faultsOfTooMuch();
        faultsOfToldAlready();
        faultsOfLaws();
        promise5();
        promise10();
        promise11();
        expressions();
        reach();
        CHECKS.end("TextPromisesTest");
    }

    private static void due(String what, long got, long want) {
        CHECKS.due(what, got, want);
    }

    private static void promise1() {
        CushionCourt court = new CushionCourt();
        long[] counts = new long[13];
        for (int i = 0; i < 13; i++) {
            counts[i] = court.count(i);
        }
        CHECKS.row("1 count", counts, 0, 0, 0, 0, 0, 0, 0, 0, 0, 0, 0, 0, 0);
        due("1 fault", court.fault(0), 0);
        due("1 place", court.fault(1), -1);
        due("1 tape", court.text(1), -2);
        due("1 feed", court.feed(0, 0, 0, 0, 0), 20);
    }

    private static void promise2() {
        CushionCourt court = new CushionCourt();
        for (int i = 1; i <= 35; i++) {
            due("2 feed " + i, court.feed(0x20202020, 0x20202020, 0x20202020, 0x20202020, 0x20202020), 20 * i);
        }
        due("2 feed beyond", court.feed(0x40404040, 0, 0, 0, 0), -1);
        due("2 nothing came", court.text(701), -2);
        due("2 blanks", court.text(700), 0);
        due("2 empty then", court.feed(-1, 0, 0, 0, 0), 20);
        due("2 a byte of 255", court.text(20), -1);
        due("2 place of it", court.fault(1), 0);
        // 'd' 'a' 'm' 'p', ' ' '7' ';' ' ': the highest byte comes first.
        court.feed(0x64616d70, 0x20373b20, 0x20202020, 0x20202020, 0x0a0a0a0a);
        due("2 bytes in order", court.text(20), 1);
        due("2 damp told", court.damp(0), 7);
    }

    private static void promise3() {
        CushionCourt court = new CushionCourt();
        Checks.feed(court, "judge a 40 6;cause p a 0 35;beat 0;");
        due("3 n below 0", court.text(-1), -2);
        due("3 n beyond", court.text(41), -2);
        due("3 the tape stays", court.text(35), 3);
        due("3 the tape is empty then", court.text(1), -2);
        court.days(1);
        court.keepIn(0, true);
        court.find(0, 0, true);
        court.known(0);
        court.keep();
        Checks.feed(court, "judge a 1 1;cause p a 0 35;!");
        due("3 a fault", court.text(28), -1);
        due("3 the tape is empty with a fault", court.text(1), -2);
        due("3 all stays: day", court.count(4), 1);
        due("3 all stays: lean", court.judge(0, 0), 40);
        due("3 all stays: feathers", court.count(7), 1);
        due("3 all stays: found", court.count(10), 1);
        due("3 all stays: known", court.count(11), 0);
        due("3 all stays: undo", court.count(12), 1);
        due("3 all stays: kept in", court.judge(0, 4), 1);
        due("3 all stays: image", court.back(), 1);
        court.keepIn(0, true);
        Checks.feed(court, "judge a 41 6;cause p a 0 35;beat 0;and not this");
        due("3 the first bytes alone", court.text(35), 3);
        due("3 the rest is gone", court.text(1), -2);
        due("3 anew: day", court.count(4), 0);
        due("3 anew: lean", court.judge(0, 0), 41);
        due("3 anew: heard", court.count(5), 0);
        due("3 anew: feathers", court.count(7), 0);
        due("3 anew: found", court.count(10), 0);
        due("3 anew: undo", court.count(12), 0);
        due("3 anew: kept in", court.judge(0, 4), 0);
        due("3 anew: image", court.back(), -1);
        court.find(0, 0, false);
        due("3 anew: all known", court.count(11), 1);
        due("3 no bytes", court.text(0), 0);
        due("3 no judges", court.count(0), 0);
        cut("damp 12;", 6, 6);
        cut("damper 1;", 4, 4);
        cut("law fly 1<=2;", 10, 10);
        cut("damp 1 ;", 6, 6);
    }

    /** A token ends where the text does, whatever comes behind it on the tape. */
    private static void cut(String tape, int n, int place) {
        CushionCourt court = new CushionCourt();
        Checks.feed(court, tape);
        due("3 cut " + tape, court.text(n), -1);
        due("3 cut, fault " + tape, court.fault(0), 1);
        due("3 cut, place " + tape, court.fault(1), place);
    }

    private static void promise4() {
        CushionCourt court = new CushionCourt();
        Checks.tell(court, "damp 1;damp 10;");
        due("4 fault", court.fault(0), 2);
        due("4 place", court.fault(1), 12);
        due("4 what", court.fault(2), -1);
        due("4 what below", court.fault(-1), -1);
        due("4 not so many", court.text(99), -2);
        due("4 it stays with -2", court.fault(0), 2);
        court.text(0);
        due("4 none", court.fault(0), 0);
        due("4 no place", court.fault(1), -1);
    }

    private static void faultsOfTokens() {
        CHECKS.fault("", 0, -1);
        CHECKS.fault(" \n ", 0, -1);
        CHECKS.fault("\n judge\na  1\n1 ; \n", 0, -1);
        CHECKS.fault("judge a1 1;damp2;", 0, -1);
        CHECKS.fault("judge a 001 0009;damp 0000000000000000000009;", 0, -1);
        CHECKS.fault("judge abcdef 1 1;", 0, -1);
        CHECKS.fault("judge abcdefg 1 1;", 1, 6);
        CHECKS.fault("judgess a 1 1;", 1, 0);
        CHECKS.fault("judge judge 1 1;", 1, 6);
        CHECKS.fault("judge or 1 1;", 1, 6);
        CHECKS.fault("judge day 1 1;", 1, 6);
        CHECKS.fault("judge A 1 1;", 1, 6);
        CHECKS.fault("judge a 1 1", 1, 11);
        CHECKS.fault("judge a 1 1 \n", 1, 13);
        CHECKS.fault("judge a 1;", 1, 9);
        CHECKS.fault("judge a -1 1;", 1, 8);
        CHECKS.fault("judge a 1 1 1;", 1, 12);
        CHECKS.fault("judge a 1\t1;", 1, 9);
        CHECKS.fault("judge a 1 1;;", 1, 12);
        CHECKS.fault("; judge a 1 1;", 1, 0);
        CHECKS.fault("7;", 1, 0);
        CHECKS.fault("think 1;", 1, 0);
        CHECKS.fault("a;", 1, 0);
        CHECKS.fault("damp a;", 1, 5);
        CHECKS.fault("damp;", 1, 4);
        CHECKS.fault("beat", 1, 4);
        CHECKS.fault("clerk k 1 1,", 1, 11);
        CHECKS.fault("damp 1;" + (char) 233, 1, 7);
        CHECKS.fault("damp 1;" + (char) 0, 1, 7);
        CHECKS.fault("judge a 1 1;cause p 1 1;", 1, 20);
        CHECKS.fault("judge a 1 1;cause p b 1 1;", 4, 20);
        CHECKS.fault("cause p b 1 1;judge b 1 1;", 4, 8);
        CHECKS.fault("judge a 1 1;cause p clerk 1 1;", 1, 20);
        CHECKS.fault("judge a 1 1;cause p abcdefg 1 1;", 1, 20);
    }

    private static void faultsOfTooMuch() {
        CHECKS.fault("judge a 99 9;cause p a 99 99;clerk k 127 9;damp 9;beat 9;", 0, -1);
        CHECKS.fault("judge a 100 9;", 2, 8);
        CHECKS.fault("judge a 99 10;", 2, 11);
        CHECKS.fault("judge a 99999999999999999999 9;", 2, 8);
        CHECKS.fault("judge a 1 1;cause p a 100 0;", 2, 22);
        CHECKS.fault("judge a 1 1;cause p a 0 100;", 2, 24);
        CHECKS.fault("clerk k 128 1;", 2, 8);
        CHECKS.fault("clerk k 1 10;", 2, 10);
        CHECKS.fault("damp 10;", 2, 5);
        CHECKS.fault("beat 4294967297;", 2, 5);
        String judges = "judge a 1 1;judge b 1 1;judge c 1 1;judge d 1 1;judge e 1 1;";
        CHECKS.fault(judges, 0, -1);
        CHECKS.fault(judges + "judge a", 2, 60);
        CHECKS.fault(judges + " judge;", 2, 61);
        StringBuilder cases = new StringBuilder("judge a 1 1;");
        for (char name = 'a'; name <= 'j'; name++) {
            cases.append("cause ").append(name).append(" a 1 1;");
        }
        CHECKS.fault(cases.toString(), 0, -1);
        CHECKS.fault(cases + "cause a a 1 1;", 2, cases.length());
        String clerks = "clerk a 1 1;clerk b 1 1;clerk c 1 1;clerk d 1 1;clerk e 1 1;";
        CHECKS.fault(clerks, 0, -1);
        CHECKS.fault(clerks + "clerk f 1 1;", 2, 60);
        CHECKS.fault(Checks.times("damp 1;", 8), 0, -1);
        CHECKS.fault(Checks.times("damp 1;", 8) + "damp", 2, 56);
    }

    private static void faultsOfToldAlready() {
        CHECKS.fault("judge a 1 1;judge a 1 1;", 3, 18);
        CHECKS.fault("judge a 1 1;judge aa 1 1;cause a a 1 1;clerk a 1 1;", 0, -1);
        CHECKS.fault("judge a 1 1;cause p a 1 1;cause p z 1 1;", 3, 32);
        CHECKS.fault("clerk k 1 1;clerk l 1 1;clerk k 200 1;", 3, 30);
        CHECKS.fault("beat 1;beat", 3, 7);
        CHECKS.fault("beat 1; damp 2; beat x", 3, 16);
        CHECKS.fault("law fly 1;law say 1;law think 1;", 0, -1);
        CHECKS.fault("law fly 1;law say 1;law fly 1;", 3, 24);
        CHECKS.fault("law fly 0;law fly", 3, 14);
    }

    private static void faultsOfLaws() {
        CHECKS.fault("law;", 1, 3);
        CHECKS.fault("law a 1;", 1, 4);
        CHECKS.fault("law lean 1;", 1, 4);
        CHECKS.fault("law or 1;", 1, 4);
        CHECKS.fault("law law 1;", 1, 4);
        CHECKS.fault("law 6 1;", 1, 4);
        CHECKS.fault("law fly 1!2;", 1, 9);
        CHECKS.fault("law fly !;", 1, 8);
        CHECKS.fault("law fly 1 lean;", 1, 10);
        CHECKS.fault("law fly 1 x 1;", 1, 10);
        CHECKS.fault("law fly;", 1, 7);
        CHECKS.fault("law fly", 1, 7);
        CHECKS.fault("law fly 1", 1, 9);
        CHECKS.fault("law fly x;", 1, 8);
        CHECKS.fault("law fly judge;", 1, 8);
        CHECKS.fault("law fly 1 2;", 1, 10);
        CHECKS.fault("law fly -1;", 1, 8);
        CHECKS.fault("law fly 1+;", 1, 10);
        CHECKS.fault("law fly 1+not 1;", 1, 10);
        CHECKS.fault("law fly 1<not 1;", 1, 10);
        CHECKS.fault("law fly not 1<2 and not not 3;", 0, -1);
        CHECKS.fault("law fly 1<2<3;", 1, 11);
        CHECKS.fault("law fly 1=2+3=3;", 1, 13);
        CHECKS.fault("law fly (1<2)<3 or 1<2;", 0, -1);
        CHECKS.fault("law fly 1< =2;", 1, 11);
        CHECKS.fault("law fly 1<=2;", 0, -1);
        CHECKS.fault("law fly 1<>2;", 0, -1);
        CHECKS.fault("law fly 1>=2;", 0, -1);
        CHECKS.fault("law fly 1><2;", 1, 10);
        CHECKS.fault("law fly 1=<2;", 1, 10);
        CHECKS.fault("law fly 1<=>2;", 1, 11);
        CHECKS.fault("law fly ();", 1, 9);
        CHECKS.fault("law fly (1;", 1, 10);
        CHECKS.fault("law fly (1", 1, 10);
        CHECKS.fault("law fly 1);", 1, 9);
        CHECKS.fault("law fly 1(2);", 1, 9);
        CHECKS.fault("law fly 1 not 2;", 1, 10);
        CHECKS.fault("law fly 1 and or 2;", 1, 14);
        CHECKS.fault("law fly 9999;", 0, -1);
        CHECKS.fault("law fly 10000;", 2, 8);
        CHECKS.fault("law fly 1 10000;", 1, 10);
        CHECKS.fault("law fly ((((((((1))))))));", 0, -1);
        CHECKS.fault("law fly (((((((((1)))))))));", 2, 16);
        CHECKS.fault("law fly ((((((((1))))))))+((((((((1))))))));", 0, -1);
        CHECKS.fault("law fly 1(((((((((", 1, 9);
        knots();
    }

    private static void knots() {
        // 32 numbers and 31 signs are 63 knots; parts in brackets are no knots of their own.
        String most = "law fly 1" + Checks.times("+(1)", 31) + ";";
        CHECKS.fault(most + "law say 1;", 0, -1);
        due("knots", Checks.court(most + "law say 1;").count(3), 64);
        CHECKS.fault(most + "law say 1+1;", 2, most.length() + 9);
        CHECKS.fault(most + "law say not 1;", 2, most.length() + 12);
        CHECKS.fault(most + "law say 1;law think 1;", 2, most.length() + 20);
        CHECKS.fault(most + "law say 1;law think );", 1, most.length() + 20);
        CHECKS.fault(most + "law say 1;law think (lean);", 2, most.length() + 21);
        CHECKS.fault(most + "law say 1;law think 10000;", 2, most.length() + 20);
        CHECKS.fault("law fly 1<1" + Checks.times("+1", 31) + ";", 2, 9 + 2 + 2 * 31 - 1);
    }

    private static void promise5() {
        CushionCourt court = Checks.court("judge a 1 1;judge aa 1 1;judge zzzzzz 1 1;cause a aa 1 1;cause p a 1 1;"
                + "clerk q 1 1;clerk a 1 1;");
        due("5 a judge", court.named(0, 1 << 25), 0);
        due("5 aa", court.named(0, 1 << 25 | 1 << 20), 1);
        due("5 zzzzzz", court.named(0, Checks.letters("zzzzzz")), 2);
        due("5 a case", court.named(1, Checks.letters("a")), 0);
        due("5 another case", court.named(1, Checks.letters("p")), 1);
        due("5 a clerk", court.named(2, Checks.letters("a")), 1);
        due("5 no such name", court.named(0, Checks.letters("p")), -1);
        due("5 no letters", court.named(0, 0), -1);
        due("5 low bits", court.named(0, 1), -1);
        due("5 below 0", court.named(0, -1), -1);
        due("5 no such what", court.named(3, 1 << 25), -1);
        due("5 what below", court.named(-1, 1 << 25), -1);
    }

    private static void promise10() {
        CushionCourt court = Checks.court("damp 1;damp 5;damp 9;");
        due("10 first", court.damp(0), 1);
        due("10 last", court.damp(2), 9);
        due("10 again", court.damp(3), 1);
        due("10 far", court.damp(9999), 1);
        due("10 beyond", court.damp(10000), -1);
        due("10 below", court.damp(-1), -1);
        due("10 without", new CushionCourt().damp(9999), 0);
    }

    private static void promise11() {
        String text = "judge a 40 6;judge b 70 2;cause p a 0 35;cause q b 3 90;damp 4;damp 8;beat 0;"
                + "law think lean*1000+stiff*100+grave;law say plump*9000+moist*1000+sure*10+day;"
                + "law fly lean*1000+stiff*100+plump*10+moist+grave+sure-day;";
        CushionCourt court = Checks.court(text);
        due("11 think", court.law(0, 0), 40635);
        due("11 think of another judge", court.law(0, 1), 70290);
        due("11 say", court.law(1, 0), 4050);
        due("11 fly", court.law(2, 1), 70204);
        due("11 no such case", court.law(0, 2), Checks.ERROR);
        due("11 no such case below", court.law(1, -1), Checks.ERROR);
        due("11 no such judge", court.law(2, 2), Checks.ERROR);
        due("11 no such what", court.law(3, 0), Checks.ERROR);
        due("11 what below", court.law(-1, 0), Checks.ERROR);
        court.give(0, 1);
        due("11 given to another", court.law(0, 0), 70235);
        due("11 no law", Checks.court("judge a 1 1;cause p a 1 1;law say 1;").law(0, 0), Checks.ERROR);
        due("11 no law of fly", Checks.court("judge a 1 1;cause p a 1 1;law say 1;").law(2, 0), Checks.ERROR);
        plumpNow();
    }

    private static void plumpNow() {
        CushionCourt other = Checks.court("judge a 40 6;judge b 50 0;cause p a 0 35;cause q a 0 36;cause r b 9 9;beat 0;"
                + "damp 1;damp 2;law think plump*100+moist*10+day;law say 0;law fly plump*100+lean;");
        other.keepIn(0, true);
        other.days(1);
        due("11 fly by plump", other.law(2, 0), 240);
        due("11 think by plump now, damp and day of today", other.law(0, 0), 221);
        due("11 of the other cushion", other.law(0, 2), 21);
        other.exchange(0, 1);
        due("11 fly of who has it", other.law(2, 1), 250);
        due("11 think by the cushion that its judge has", other.law(0, 2), 221);
    }

    private static long value(String e) {
        return Checks.court("judge a 40 6;damp 3;law fly " + e + ";").law(2, 0);
    }

    private static void expression(String e, long want) {
        due("11 " + e, value(e), want);
    }

    private static void expressions() {
        expression("2+3*4", 14);
        expression("2*3+4", 10);
        expression("(2+3)*4", 20);
        expression("10-3-2", 5);
        expression("10-(3-2)", 9);
        expression("100/10/5", 2);
        expression("100/7*7", 98);
        expression("7/2", 3);
        expression("(0-7)/2", -3);
        expression("7/(0-2)", -3);
        expression("1+2<4", 1);
        expression("3<3", 0);
        expression("3<=3", 1);
        expression("3=3", 1);
        expression("3<>3", 0);
        expression("3<>4", 1);
        expression("3>=4", 0);
        expression("4>3", 1);
        expression("3>3", 0);
        expression("5 and 7", 1);
        expression("5 and 0", 0);
        expression("0 or 7", 1);
        expression("0 or 0", 0);
        expression("1 or 0 and 0", 1);
        expression("(1 or 0) and 0", 0);
        expression("not 5", 0);
        expression("not 0", 1);
        expression("not not 5", 1);
        expression(Checks.times("not ", 63) + "5", 0);
        expression(Checks.times("(", 8) + Checks.times("not ", 62) + "5" + Checks.times(")", 8), 1);
        expression("not 0 and 0", 0);
        expression("not (0 and 0)", 1);
        expression("not 1 < 1", 1);
        expression("(not 1) < 1", 1);
        expression("not 2 = 0", 1);
        expression("not 0 or 1/0", Checks.ERROR);
        expression("0 and 1/0", Checks.ERROR);
        expression("0*(1/0)", Checks.ERROR);
        expression("not (1/0)", Checks.ERROR);
        expression("0/5", 0);
        expression("lean", 40);
        expression("stiff", 6);
        expression("grave", 0);
        expression("plump", 0);
        expression("moist", 3);
        expression("sure", 0);
        expression("day", 0);
        expression("lean-moist*2=34 and not day", 1);
    }

    private static void reach() {
        expression("1000*1000*1000*1000", 1000000000000L);
        expression("1000*1000*1000*1000+1", Checks.ERROR);
        expression("1000*1000*1000*1000-1", 999999999999L);
        expression("1000*1000*1000*1000-1+1", 1000000000000L);
        expression("1-1000*1000*1000*1000+(0-1)", -1000000000000L);
        expression("1-1000*1000*1000*1000+(0-2)", Checks.ERROR);
        expression("0-1000*1000*1000*1000", -1000000000000L);
        expression("0-1000*1000*1000*1000-1", Checks.ERROR);
        expression("(0-1000)*1000*1000*1000", -1000000000000L);
        expression("9999*9999*9999", 999700029999L);
        expression("9999*9999*9999*2", Checks.ERROR);
        expression("9999*9999*9999*(0-2)", Checks.ERROR);
        expression("9999*9999*9999*0", 0);
        expression("0*(9999*9999*9999)", 0);
        expression("(1000*1000*1000*1000)*(1000*1000*1000*1000)", Checks.ERROR);
        expression("(0-1000*1000*1000*1000)*(1000*1000*1000*1000)", Checks.ERROR);
        expression("(1000*1000*1000*1000+1)*0", Checks.ERROR);
        expression("not (1000*1000*1000*1000+1)", Checks.ERROR);
        expression("1000*1000*1000*1000/(0-1)", -1000000000000L);
    }
}
