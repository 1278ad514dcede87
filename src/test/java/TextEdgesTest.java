/** Boundary cases of promises 1 to 5, 10 and 11: a method for each sentence, which stands above it as a remark. */
public final class TextEdgesTest {
    private static final Checks CHECKS = new Checks();
    private static final int LEAST = Integer.MIN_VALUE;
    private static final int MOST = Integer.MAX_VALUE;
    private static final int BLANKS = 0x20202020;

    public static void main(String[] args) {
        promise1NoLines();
        promise1EmptyTape();
        callsUpToThe512th();
        promise2SevenHundredBytes();
        promise2NoneCome();
        promise2HighestFirst();
        promise2BytesAbove127();
        promise3NotSoMany();
        promise3BelowZero();
        promise3NoBytes();
        promise3TapeIsEmptyThen();
        promise3AllStaysWithAFault();
        promise3NewWithoutAFault();
        promise3HowManyLines();
        promise4BeforeAnyText();
        promise4LatestButNotMinusTwo();
        promise4PlaceAtTheEnds();
        promise4AnotherWhat();
        promise5AnotherWhat();
        promise5OneToSixLetters();
        promise5ZeroBehindTheLastOne();
        promise5NoneSuch();
        promise5LastOfEachKind();
        promise10Days();
        promise10AgainFromTheFirstOneOn();
        promise10Without();
        promise11NoSuchOnes();
        promise11NoSuchLaw();
        promise11Error();
        promise11AsItIs();
        CHECKS.end("TextEdgesTest");
    }

    private static void due(String what, long got, long want) {
        CHECKS.due(what, got, want);
    }

    private static int feedBlanks(CushionCourt court) {
        return court.feed(BLANKS, BLANKS, BLANKS, BLANKS, BLANKS);
    }

    // 1: "A TEXT without LINES": there is not even a first one of anything.
    private static void promise1NoLines() {
        CushionCourt court = new CushionCourt();
        for (int what = 0; what <= 12; what++) {
            due("1 no lines: count " + what, court.count(what), 0);
        }
        due("1 no lines: case", Checks.cause(court, 0, 0), Checks.THROWS_BOUNDS);
        due("1 no lines: judge", court.judge(0, 0), -1);
        due("1 no lines: clerk", court.knows(0), -1);
        due("1 no lines: damp", court.damp(0), 0);
        due("1 no lines: law", court.law(2, 0), Checks.ERROR);
        due("1 no lines: name", court.named(0, 0), -1);
        due("1 no lines: plumpest", court.plumpest(), -1);
        due("1 no lines: a day", court.days(1), 1);
    }

    // 1: "an empty TAPE".
    private static void promise1EmptyTape() {
        due("1 empty tape: no byte", new CushionCourt().text(0), 0);
        due("1 empty tape: one byte", new CushionCourt().text(1), -2);
        due("1 empty tape: the first bytes", feedBlanks(new CushionCourt()), 20);
    }

    // "An object is used for at most 512 calls after it has been made".
    private static void callsUpToThe512th() {
        CushionCourt court = new CushionCourt();
        Checks.feed(court, "judge a 1 1;judge b 1 1;");
        due("512 calls: the third", court.text(24), 2);
        for (int i = 4; i <= 511; i++) {
            CHECKS.due("512 calls: call " + i, court.exchange(0, 1), true);
        }
        due("512 calls: the last one", court.judge(0, 2), 0);
    }

    // 2: "how many it has; NONE, and none come, if it would have more than 700".
    private static void promise2SevenHundredBytes() {
        CushionCourt court = new CushionCourt();
        for (int i = 1; i <= 34; i++) {
            feedBlanks(court);
        }
        due("2 with 680 bytes there is room", feedBlanks(court), 700);
        due("2 with 700 bytes there is none", feedBlanks(court), -1);
        due("2 with 700 bytes there is none, again", feedBlanks(court), -1);
        due("2 all 700 are a text", court.text(700), 0);
        due("2 room again behind a text", feedBlanks(court), 20);
    }

    private static void promise2NoneCome() {
        CushionCourt court = new CushionCourt();
        Checks.feed(court, Checks.times(" ", 693) + "damp 7;");
        due("2 refused", court.feed(0x64616d70, 0x20383b20, BLANKS, BLANKS, BLANKS), -1);
        due("2 none come: not one byte more", court.text(701), -2);
        due("2 none come: not twenty more", court.text(720), -2);
        due("2 none come: the bytes are the old ones", court.text(700), 1);
        due("2 none come: damp", court.damp(0), 7);
    }

    // 2: "four of each number, the highest first".
    private static void promise2HighestFirst() {
        CushionCourt court = new CushionCourt();
        // "judg" "e ab" " 12 " "3;da" "mp 4", and then ";" alone.
        court.feed(0x6a756467, 0x65206162, 0x20313220, 0x333b6461, 0x6d702034);
        court.feed(0x3b202020, BLANKS, BLANKS, BLANKS, BLANKS);
        due("2 highest first", court.text(21), 2);
        due("2 highest first: lean", court.judge(0, 0), 12);
        due("2 highest first: stiff", court.judge(0, 1), 3);
        due("2 highest first: damp", court.damp(0), 4);
    }

    // 2 and 3: bytes of 128 .. 255 (numbers below 0 have them) are bytes like others, but no tokens.
    private static void promise2BytesAbove127() {
        int[] highest = {0x80202020, 0x8a202020, 0xa0202020, 0xe1202020, 0xff202020};
        for (int number : highest) {
            CushionCourt court = new CushionCourt();
            due("2 high byte first in a number", court.feed(BLANKS, number, BLANKS, BLANKS, BLANKS), 20);
            due("2 a text ahead of it", court.text(4), 0);
            court.feed(BLANKS, number, BLANKS, BLANKS, BLANKS);
            due("2 a text with it", court.text(5), -1);
            due("2 its fault", court.fault(0), 1);
            due("2 its place", court.fault(1), 4);
        }
    }

    // 3: "-2, and the TAPE stays: there are not so many".
    private static void promise3NotSoMany() {
        CushionCourt court = new CushionCourt();
        Checks.feed(court, "damp 3;damp 4;      ");
        due("3 one more than there are", court.text(21), -2);
        due("3 far more than there are", court.text(MOST), -2);
        due("3 the tape stays", court.text(20), 2);
        due("3 not so many leaves the text", court.text(1), -2);
        due("3 not so many leaves the damp", court.damp(1), 4);
    }

    // 3: "-2, and the TAPE stays: .. n is below 0".
    private static void promise3BelowZero() {
        CushionCourt court = new CushionCourt();
        Checks.feed(court, "damp 3;             ");
        due("3 one below 0", court.text(-1), -2);
        due("3 far below 0", court.text(LEAST), -2);
        due("3 the tape stays then, too", feedBlanks(court), 40);
        due("3 and is read", court.text(40), 1);
    }

    // 3: n of 0 is neither below 0 nor too many: a text without lines, and the tape is empty then.
    private static void promise3NoBytes() {
        CushionCourt court = Checks.court("judge a 1 1;");
        Checks.feed(court, "damp 3;");
        due("3 no bytes", court.text(0), 0);
        due("3 no bytes: no lines", court.count(0), 0);
        due("3 no bytes: the tape is empty", court.text(1), -2);
    }

    // 3: "The TAPE's first n bytes (it is empty then)".
    private static void promise3TapeIsEmptyThen() {
        CushionCourt court = new CushionCourt();
        Checks.feed(court, "damp 3;damp 4;");
        due("3 the first bytes", court.text(7), 1);
        due("3 the rest is gone", court.text(1), -2);
        due("3 fed from the first byte on", feedBlanks(court), 20);
        court.text(0);
        Checks.feed(court, "damp 30;");
        due("3 with a fault", court.text(8), -1);
        due("3 empty with a fault, too", court.text(1), -2);
        due("3 fed from the first byte on with a fault", feedBlanks(court), 20);
    }

    /** A court with something of everything: a day, feathers, what is kept in, found, known, done, an image. */
    private static CushionCourt busy() {
        CushionCourt court =
                Checks.court("judge a 50 6;judge b 40 0;cause p a 0 45;cause q b 9 9;clerk k 1 9;beat 0;", 2);
        court.keep();
        court.find(0, 0, true);
        court.find(0, 1, true);
        court.known(1);
        court.exchange(0, 1);
        court.keepIn(0, true);
        return court;
    }

    // 3: "NONE with a FAULT, all stays".
    private static void promise3AllStaysWithAFault() {
        CushionCourt court = busy();
        String before = Checks.state(court);
        due("3 a fault at the very end", Checks.tell(court, "judge z 1 1;cause y z 1 1;clerk x 1 1;damp 1;beat 9"), -1);
        CHECKS.same("3 all stays", Checks.state(court), before);
        due("3 all stays: names", court.named(0, Checks.letters("b")), 1);
        due("3 all stays: damp", court.damp(0), 0);
        due("3 all stays: the latest can be undone", court.undo(), 1);
        due("3 all stays: the image", court.back(), 2);
        Checks.tell(court, "law think 1;law say 1;law fly 1+;");
        due("3 all stays: no law of think", court.law(0, 0), Checks.ERROR);
        due("3 all stays: no law of fly", court.law(2, 0), Checks.ERROR);
        due("3 all stays: no knots", court.count(3), 0);
    }

    // 3: "(DAY 0, CUSHIONS empty, none KEPT IN, nothing FOUND, all KNOWN, no IMAGE, nothing to undo then)".
    private static void promise3NewWithoutAFault() {
        CushionCourt court = busy();
        due("3 anew", Checks.tell(court, "judge a 50 6;judge b 40 0;cause p a 0 45;"), 3);
        due("3 anew: day 0", court.count(4), 0);
        due("3 anew: cushions empty", court.count(7), 0);
        due("3 anew: its own cushion", court.judge(0, 2), 0);
        due("3 anew: none kept in", court.judge(0, 4) + court.judge(1, 4), 0);
        due("3 anew: not heard", Checks.cause(court, 0, 4), -1);
        due("3 anew: nothing found", court.count(10), 0);
        due("3 anew: nothing to undo", court.undo(), -1);
        due("3 anew: no image", court.back(), -1);
        court.find(0, 0, true);
        due("3 anew: all known", court.ways(), 0);
        due("3 anew: no clerks", court.knows(0), -1);
        court.days(1);
        due("3 anew: beat is 1 again", court.count(8), 1);
        CushionCourt none = Checks.court("judge a 50 6;cause p a 0 45;");
        none.known(0);
        Checks.tell(none, "judge a 50 6;cause p a 0 45;");
        none.find(0, 0, true);
        due("3 anew: all known, though none was", none.ways(), 0);
        due("3 anew: all known, count", none.count(11), 1);
        CushionCourt known = Checks.court("judge a 50 6;cause p a 0 45;clerk k 1 9;law fly 1;", 1);
        due("3 ahead: the clerk knows", known.knows(0), 1);
        Checks.tell(known, "judge a 50 6;cause p a 0 45;clerk k 1 9;");
        due("3 anew: the clerk doesn't know", known.knows(0), 0);
        due("3 anew: no law", known.law(2, 0), Checks.ERROR);
    }

    // 3: "how many LINES": none, one, and the most that there can be (5 + 10 + 5 + 8 + 1 + 3).
    private static void promise3HowManyLines() {
        due("3 lines: none", Checks.tell(new CushionCourt(), " \n"), 0);
        due("3 lines: one", Checks.tell(new CushionCourt(), "beat 1;"), 1);
        StringBuilder text = new StringBuilder();
        for (char name = 'a'; name < 'a' + 5; name++) {
            text.append("judge ").append(name).append(" 1 1;clerk ").append(name).append(" 1 1;");
        }
        for (char name = 'a'; name < 'a' + 10; name++) {
            text.append("cause ").append(name).append(" a 1 1;");
        }
        text.append(Checks.times("damp 1;", 8)).append("beat 1;law think 1;law say 1;law fly 1;");
        due("3 lines: most", Checks.tell(new CushionCourt(), text.toString()), 32);
        String full = text + Checks.times(" ", 700 - text.length());
        due("3 lines: most, on a full tape", Checks.tell(new CushionCourt(), full), 32);
    }

    // 4: "what 0: its FAULT (0), 1: its place (NONE without)": there was no text() at all.
    private static void promise4BeforeAnyText() {
        CushionCourt court = new CushionCourt();
        due("4 before any text", court.fault(0), 0);
        due("4 before any text, place", court.fault(1), -1);
        court.text(5);
        due("4 behind -2 alone", court.fault(0), 0);
        due("4 behind -2 alone, place", court.fault(1), -1);
    }

    // 4: "Of the latest text() that was not -2".
    private static void promise4LatestButNotMinusTwo() {
        CushionCourt court = new CushionCourt();
        Checks.tell(court, "damp 1;beat 10;");
        court.text(-1);
        court.text(1);
        due("4 -2 doesn't count", court.fault(0), 2);
        due("4 -2 doesn't count, place", court.fault(1), 12);
        Checks.tell(court, "cause p a 1 1;");
        due("4 the latest fault", court.fault(0), 4);
        due("4 the latest place", court.fault(1), 8);
        court.text(0);
        due("4 the latest has none", court.fault(0), 0);
        due("4 the latest has no place", court.fault(1), -1);
    }

    // 4: a place is 0 at least and the length at most.
    private static void promise4PlaceAtTheEnds() {
        CHECKS.fault("4 the first place", "!", 1, 0);
        CHECKS.fault("4 the last place", "beat 1", 1, 6);
        CHECKS.fault("4 the last place of a full tape", Checks.times("\n", 696) + "beat", 1, 700);
        CHECKS.fault("4 the last byte of a full tape", Checks.times(" ", 699) + "-", 1, 699);
    }

    // 4: "NONE for another what".
    private static void promise4AnotherWhat() {
        CushionCourt court = new CushionCourt();
        Checks.tell(court, "damp 10;");
        due("4 what 0", court.fault(0), 2);
        due("4 what 1", court.fault(1), 5);
        due("4 what 2", court.fault(2), -1);
        due("4 what -1", court.fault(-1), -1);
        due("4 least what", court.fault(LEAST), -1);
        due("4 most what", court.fault(MOST), -1);
    }

    // 5: "The number of a JUDGE (what 0), CASE (1), CLERK (2)"; "NONE: there is none such".
    private static void promise5AnotherWhat() {
        CushionCourt court =
                Checks.court("judge b 1 1;judge a 1 1;cause c b 1 1;cause d b 1 1;cause a b 1 1;clerk a 1 1;");
        int a = Checks.letters("a");
        due("5 what 0", court.named(0, a), 1);
        due("5 what 1", court.named(1, a), 2);
        due("5 what 2", court.named(2, a), 0);
        due("5 what 3", court.named(3, a), -1);
        due("5 what -1", court.named(-1, a), -1);
        due("5 least what", court.named(LEAST, a), -1);
        due("5 most what", court.named(MOST, a), -1);
    }

    // 5: "5 bits each (a is 1; the first one highest of six ..)".
    private static void promise5OneToSixLetters() {
        CushionCourt court =
                Checks.court("judge a 1 1;judge z 1 1;judge abcdef 1 1;judge zzzzzz 1 1;judge aaaaaa 1 1;");
        due("5 a is 1", court.named(0, 1 << 25), 0);
        due("5 z is 26", court.named(0, 26 << 25), 1);
        due("5 six letters", court.named(0, 1 << 25 | 2 << 20 | 3 << 15 | 4 << 10 | 5 << 5 | 6), 2);
        due("5 the last of six isn't left out", court.named(0, 1 << 25 | 2 << 20 | 3 << 15 | 4 << 10 | 5 << 5), -1);
        due("5 six of z", court.named(0, 0x35ad6b5a), 3);
        due("5 six of a", court.named(0, 0x02108421), 4);
        due("5 five of a", court.named(0, 0x02108420), -1);
    }

    // 5: "0 behind the last one".
    private static void promise5ZeroBehindTheLastOne() {
        CushionCourt court = Checks.court("judge aa 1 1;judge a 1 1;judge ab 1 1;");
        due("5 a", court.named(0, 1 << 25), 1);
        due("5 aa", court.named(0, 1 << 25 | 1 << 20), 0);
        due("5 ab", court.named(0, 1 << 25 | 2 << 20), 2);
        due("5 a letter ahead of the first one is missing", court.named(0, 1 << 20), -1);
        due("5 a letter behind a gap", court.named(0, 1 << 25 | 1 << 15), -1);
        due("5 letters put lowest", court.named(0, 1), -1);
    }

    // 5: "NONE: there is none such".
    private static void promise5NoneSuch() {
        CushionCourt court = Checks.court("judge a 1 1;cause b a 1 1;");
        due("5 no letters", court.named(0, 0), -1);
        due("5 of another kind", court.named(1, Checks.letters("a")), -1);
        due("5 of a kind without any", court.named(2, Checks.letters("a")), -1);
        due("5 a bit above the thirty", court.named(0, 1 << 25 | 1 << 30), -1);
        due("5 the highest bit", court.named(0, 1 << 25 | 1 << 31), -1);
        due("5 all bits", court.named(0, -1), -1);
        due("5 least letters", court.named(0, LEAST), -1);
        due("5 most letters", court.named(0, MOST), -1);
        Checks.tell(court, "judge c 1 1;");
        due("5 of the text ahead", court.named(0, Checks.letters("a")), -1);
        due("5 a case of the text ahead", court.named(1, Checks.letters("b")), -1);
    }

    // 5 and "All numbered as they come": the last one of each kind has the highest number.
    private static void promise5LastOfEachKind() {
        StringBuilder text = new StringBuilder();
        for (char name = 'a'; name < 'a' + 5; name++) {
            text.append("judge ").append(name).append(" 1 1;clerk ").append(name).append(" 1 1;");
        }
        for (char name = 'a'; name < 'a' + 10; name++) {
            text.append("cause ").append(name).append(" a 1 1;");
        }
        CushionCourt court = Checks.court(text.toString());
        due("5 the fifth judge", court.named(0, Checks.letters("e")), 4);
        due("5 no sixth judge", court.named(0, Checks.letters("f")), -1);
        due("5 the tenth case", court.named(1, Checks.letters("j")), 9);
        due("5 no eleventh case", court.named(1, Checks.letters("k")), -1);
        due("5 the fifth clerk", court.named(2, Checks.letters("e")), 4);
        due("5 no sixth clerk", court.named(2, Checks.letters("f")), -1);
    }

    // 10: "DAMP of a DAY 0 .. 9999; NONE: no such one".
    private static void promise10Days() {
        CushionCourt court = Checks.court("damp 5;damp 6;");
        due("10 day 0", court.damp(0), 5);
        due("10 day -1", court.damp(-1), -1);
        due("10 day 9999", court.damp(9999), 6);
        due("10 day 10000", court.damp(10000), -1);
        due("10 least day", court.damp(LEAST), -1);
        due("10 most day", court.damp(MOST), -1);
    }

    // 10 and "of DAY 0 on, and again from the first one on".
    private static void promise10AgainFromTheFirstOneOn() {
        CushionCourt one = Checks.court("damp 4;");
        due("10 one, first day", one.damp(0), 4);
        due("10 one, second day", one.damp(1), 4);
        CushionCourt eight = Checks.court("damp 1;damp 2;damp 3;damp 4;damp 5;damp 6;damp 7;damp 8;");
        due("10 eight, last one", eight.damp(7), 8);
        due("10 eight, again", eight.damp(8), 1);
        due("10 eight, last one again", eight.damp(15), 8);
        due("10 eight, far", eight.damp(9999), 8);
        due("10 eight, not by the week", eight.damp(14), 7);
    }

    // 10 and "(0 without)".
    private static void promise10Without() {
        CushionCourt court = Checks.court("beat 9;");
        due("10 without, day 0", court.damp(0), 0);
        due("10 without, day 9999", court.damp(9999), 0);
        due("10 without, no such day", court.damp(10000), -1);
        Checks.tell(court, "damp 3;");
        Checks.tell(court, "beat 1;");
        due("10 without, behind a text with", court.damp(0), 0);
    }

    // 11: "Long.MIN_VALUE: .. no such ones".
    private static void promise11NoSuchOnes() {
        CushionCourt court = Checks.court("judge a 1 1;judge b 2 2;cause p a 1 1;cause q a 1 7;cause r a 1 1;"
                + "law think grave;law say 5;law fly lean;");
        due("11 what 0", court.law(0, 1), 7);
        due("11 what 1", court.law(1, 2), 5);
        due("11 what 2", court.law(2, 1), 2);
        due("11 what 3", court.law(3, 0), Checks.ERROR);
        due("11 what -1", court.law(-1, 0), Checks.ERROR);
        due("11 least what", court.law(LEAST, 0), Checks.ERROR);
        due("11 most what", court.law(MOST, 0), Checks.ERROR);
        due("11 first case", court.law(0, 0), 1);
        due("11 case -1", court.law(0, -1), Checks.ERROR);
        due("11 last case", court.law(0, 2), 1);
        due("11 case behind the last one", court.law(0, 3), Checks.ERROR);
        due("11 case behind the last one, say", court.law(1, 3), Checks.ERROR);
        due("11 case -1, say", court.law(1, -1), Checks.ERROR);
        due("11 judge -1", court.law(2, -1), Checks.ERROR);
        due("11 judge behind the last one, though a case", court.law(2, 2), Checks.ERROR);
        due("11 least judge", court.law(2, LEAST), Checks.ERROR);
        due("11 most case", court.law(0, MOST), Checks.ERROR);
    }

    // 11: "Long.MIN_VALUE: .. no such law".
    private static void promise11NoSuchLaw() {
        String court = "judge a 1 1;cause p a 1 1;";
        String[] laws = {"law think 3;", "law say 4;", "law fly 5;"};
        for (int told = 0; told < 3; told++) {
            for (int what = 0; what < 3; what++) {
                due("11 law " + what + " of " + laws[told], Checks.court(court + laws[told]).law(what, 0),
                        what == told ? 3 + told : Checks.ERROR);
            }
        }
    }

    // 11: "Long.MIN_VALUE: an ERROR".
    private static void promise11Error() {
        CushionCourt court = Checks.court("judge a 0 1;judge b 1 1;cause p a 1 4;cause q b 1 4;"
                + "law think grave/lean;law say 1000*1000*1000*1000+lean;law fly 0-1000*1000*1000*1000-lean;");
        due("11 an error of think", court.law(0, 0), Checks.ERROR);
        due("11 none of think", court.law(0, 1), 4);
        due("11 none of say", court.law(1, 0), 1000000000000L);
        due("11 an error of say", court.law(1, 1), Checks.ERROR);
        due("11 none of fly", court.law(2, 0), -1000000000000L);
        due("11 an error of fly", court.law(2, 1), Checks.ERROR);
    }

    // 11: "A law's E now": that of fly isn't brought into 0 .. 8.
    private static void promise11AsItIs() {
        String[] values = {"0-1", "0", "8", "9", "9999"};
        long[] want = {-1, 0, 8, 9, 9999};
        for (int i = 0; i < values.length; i++) {
            due("11 as it is " + values[i], Checks.court("judge a 1 1;law fly " + values[i] + ";").law(2, 0), want[i]);
        }
    }
}
