import java.util.Arrays;

/**
 * Boundary cases of the TEXT and its FAULTS (Terms, ==== 1), as promises 3 (text) and 4 (fault) tell them: a method
 * for each sentence or part of one, which stands above it as a remark.
 */
public final class FaultEdgesTest {
    private static final Checks CHECKS = new Checks();
    private static final String[] LANGUAGE = ("judge cause clerk damp beat law think say fly or and not "
            + "lean stiff grave plump moist sure day").split(" ");
    private static final String[] SIGNS = {"+", "-", "*", "/", "<", "<=", "=", "<>", ">=", ">", " and ", " or "};
    private static final String JUDGE = "judge a 1 1;";
    // 64 knots, and a sign may come behind them; 63 and an "and", so that a side must come.
    private static final String FULL = "law fly not 1" + Checks.times("+1", 31);
    private static final String FULL_BUT_ONE_SIDE = "law fly 1" + Checks.times("+1", 31) + " and ";

    public static void main(String[] args) {
        lineEnds();
        everyCut();
        blanks();
        smallLetters();
        digits();
        oneToSixLetters();
        wordsOfTheLanguage();
        leadingZerosAndManyDigits();
        numbersOfJudges();
        numbersOfCases();
        numbersOfClerks();
        numbersOfDampAndBeat();
        numbersOfLaws();
        sixthJudge();
        eleventhCase();
        sixthClerk();
        ninthDamp();
        ninthBracket();
        knots64();
        knot65OfEachKind();
        knotsOfAllLaws();
        leastOfOnePlace();
        firstAlongTheText();
        nameTold();
        beatTold();
        lawTold();
        judgeToldAhead();
        signsRightBehind();
        oneComparison();
        notOnlyAheadOfComparisons();
        nothingIsLeftOfAFault();
        nothingIsLeftOfManyFaults();
        brackets();
        CHECKS.end("FaultEdgesTest");
    }

    private static void fine(String what, String text) {
        CHECKS.fine("3 " + what, text);
    }

    private static void fault(String what, String text, int why, int place) {
        CHECKS.fault("4 " + what, text, why, place);
    }

    /** It is refused for this at the end of what comes ahead of the last part. */
    private static void faultBehind(String what, String ahead, String part, int why) {
        fault(what, ahead + part, why, ahead.length());
    }

    // "A TEXT: { LINE ';' }": no line at all, a ';' behind the last one, too, none without a line.
    private static void lineEnds() {
        fine("empty", "");
        fine("blanks alone", " \n\n ");
        fine("one line", "beat 1;");
        fault("no ; behind the last line", "damp 1;beat 1", 1, 13);
        fault("no ; behind a line ahead", "damp 1 beat 1;", 1, 7);
        String[] others = {"+", "-", "*", "/", "(", ")", "<", "<=", "<>", "=", ">", ">=", ",", "a", "1 1", "or"};
        for (String other : others) {
            fault("another one where ; must stand", "beat 1 " + other + ";", 1, 7);
            fault("another one where ; must stand, of a judge", "judge a 1 1 " + other, 1, 12);
        }
        fault("a ; without a line", ";", 1, 0);
        fault("a second ;", "beat 1;;", 1, 7);
        fine("blanks around", "\n beat\n1 ; \n");
        fine("no blanks where none are needed", "judge a1 1;damp2;law fly1+lean<2or not 3;");
        fault("blanks that are needed", "judge a 11;", 1, 10);
    }

    // "1 .. can't stand there (the length, if more must come)": a text cut behind each of its bytes.
    private static void everyCut() {
        String text = "judge a 40 6;cause pq a 12 35;clerk k 11 9;damp 3;beat 2;"
                + "law think not(lean<=12 or day)and sure;";
        for (int n = 0; n <= text.length(); n++) {
            String cut = text.substring(0, n);
            if (cut.isEmpty() || cut.endsWith(";")) {
                fine("cut", cut);
            } else {
                fault("cut", cut, 1, placeOfCut(text, n));
            }
            CushionCourt court = new CushionCourt();
            Checks.feed(court, text);
            CHECKS.due("3 cut, and more on the tape, " + cut, court.text(n) >= 0, cut.isEmpty() || cut.endsWith(";"));
            CHECKS.due("4 cut, and more on the tape, " + cut, court.fault(1),
                    cut.isEmpty() || cut.endsWith(";") ? -1 : placeOfCut(text, n));
        }
        String[] ends = {"beat 1", "beat", "law fly 1<", "law fly 1", "law fly lean", "judge a 1 1"};
        for (String end : ends) {
            String full = Checks.times(" ", 700 - end.length()) + end;
            fault("the length of a full tape", full, 1, 700);
        }
        fault("the length counts blanks", "beat 1  \n", 1, 9);
        fault("the length behind a line's word", "beat", 1, 4);
        fault("the length behind a law's word", "law say", 1, 7);
        fault("the length behind a sign", "law say 1<", 1, 10);
        fault("the length with a bracket open", "law say (1", 1, 10);
    }

    /** A word of the language that is cut can't stand where it begins; of all else more must come. */
    private static int placeOfCut(String text, int n) {
        int from = n;
        while (from > 0 && Character.isLetter(text.charAt(from - 1))) {
            from--;
        }
        int to = n;
        while (to < text.length() && Character.isLetter(text.charAt(to))) {
            to++;
        }
        boolean isOfLanguage = Arrays.asList(LANGUAGE).contains(text.substring(from, to));
        return isOfLanguage && to > n && from < n ? from : n;
    }

    // "Blanks 10, 32": no other byte parts two tokens.
    private static void blanks() {
        for (int sign = 0; sign < 256; sign++) {
            String text = "damp" + (char) sign + "1;";
            if (sign == 10 || sign == 32 || sign == '0') {
                fine("byte " + sign + " between", text);
            } else if (sign >= '1' && sign <= '9') {
                fault("byte " + sign + " between", text, 2, 4);
            } else if (sign >= 'a' && sign <= 'z') {
                fault("byte " + sign + " between", text, 1, 0);
            } else {
                fault("byte " + sign + " between", text, 1, 4);
            }
        }
    }

    // "Words: small letters in a row": a and z, but neither what is ahead of a nor what is behind z.
    private static void smallLetters() {
        for (int sign = 0; sign < 256; sign++) {
            String text = "judge " + (char) sign + " 1 1;";
            if (sign >= 'a' && sign <= 'z') {
                fine("byte " + sign + " as a name", text);
            } else {
                fault("byte " + sign + " as a name", text, 1, sign == 10 || sign == 32 ? 8 : 6);
            }
        }
    }

    // "N: digits": 0 and 9, but neither what is ahead of 0 nor what is behind 9.
    private static void digits() {
        for (int sign = 0; sign < 256; sign++) {
            String text = "damp " + (char) sign + ";";
            if (sign >= '0' && sign <= '9') {
                fine("byte " + sign + " as a number", text);
                CHECKS.due("3 byte " + sign + " is worth", Checks.court(text).damp(0), sign - '0');
            } else {
                fault("byte " + sign + " as a number", text, 1, sign == 10 || sign == 32 ? 6 : 5);
            }
        }
    }

    // "W: one of 1 .. 6 letters"; "1 a TOKEN that is none (a word of more than 6 letters ..)".
    private static void oneToSixLetters() {
        fine("1 letter", "judge a 1 1;cause b a 1 1;clerk c 1 1;");
        fine("6 letters", "judge abcdef 1 1;cause ghijkl abcdef 1 1;clerk mnopqr 1 1;");
        fault("no letter of a judge", "judge 1 1;", 1, 6);
        fault("7 letters of a judge", "judge abcdefg 1 1;", 1, 6);
        fault("7 letters of a case", JUDGE + "cause abcdefg a 1 1;", 1, 18);
        fault("7 letters of the judge of a case", "judge abcdef 1 1;cause p abcdefg 1 1;", 1, 25);
        fault("7 letters of a clerk", "clerk abcdefg 1 1;", 1, 6);
        fault("far more letters", "judge " + Checks.times("a", 600) + " 1 1;", 1, 6);
        fault("7 letters in a law", "law fly abcdefg;", 1, 8);
        fault("6 letters in a law", "law fly abcdef;", 1, 8);
        fault("a word of the language and more", "judgeab a 1 1;", 1, 0);
        fault("a word of the language without its last letter", "judg a 1 1;", 1, 0);
    }

    // "W: .. none of those of the language".
    private static void wordsOfTheLanguage() {
        for (String word : LANGUAGE) {
            fault("a judge by a word", "judge " + word + " 1 1;", 1, 6);
            fault("a case by a word", JUDGE + "cause " + word + " a 1 1;", 1, 18);
            fault("a case before a word", JUDGE + "cause p " + word + " 1 1;", 1, 20);
            fault("a clerk by a word", "clerk " + word + " 1 1;", 1, 6);
            fine("nearly a word", "judge " + word + "x 1 1;clerk " + word.substring(0, 1) + " 1 1;");
        }
    }

    // "N: digits": how many doesn't matter, what they are worth does.
    private static void leadingZerosAndManyDigits() {
        fine("leading zeros", "judge a 0099 00000000000000000000000009;law fly 0000000000000009999;");
        CHECKS.due("3 leading zeros are worth nothing", Checks.court("judge a 00000000000000042 7;").judge(0, 0), 42);
        String[] wraps = {"128", "256", "65536", "4294967296", "4294967301", "18446744073709551616",
            "18446744073709551621", "10000000000000000000000000000000000000000"};
        for (String number : wraps) {
            fault("a number that would wrap around", "beat " + number + ";", 2, 5);
            fault("a clerk's number that would wrap around", "clerk a " + number + " 1;", 2, 8);
        }
        fault("an E's number that would wrap around", "law fly 4294967297;", 2, 8);
        fault("leading zeros don't hide what is too much", "damp 000010;", 2, 5);
    }

    // "LEAN 0 .. 99, STIFF 0 .. 9"; "2 too much (at it): a number beyond what is said".
    private static void numbersOfJudges() {
        CushionCourt court = Checks.court("judge a 0 9;judge b 99 0;");
        CHECKS.due("3 LEAN 0", court.judge(0, 0), 0);
        CHECKS.due("3 STIFF 9", court.judge(0, 1), 9);
        CHECKS.due("3 LEAN 99", court.judge(1, 0), 99);
        CHECKS.due("3 STIFF 0", court.judge(1, 1), 0);
        fault("LEAN 100", "judge a 100 9;", 2, 8);
        fault("STIFF 10", "judge a 99 10;", 2, 11);
        fault("LEAN below 0", "judge a -1 9;", 1, 8);
    }

    // "on a DAY 0 .. 99, GRAVE 0 .. 99".
    private static void numbersOfCases() {
        CushionCourt court = Checks.court(JUDGE + "cause p a 0 99;cause q a 99 0;");
        CHECKS.due("3 DAY 0", Checks.cause(court, 0, 1), 0);
        CHECKS.due("3 GRAVE 99", Checks.cause(court, 0, 2), 99);
        CHECKS.due("3 DAY 99", Checks.cause(court, 1, 1), 99);
        CHECKS.due("3 GRAVE 0", Checks.cause(court, 1, 2), 0);
        fault("DAY 100", JUDGE + "cause p a 100 9;", 2, 22);
        fault("GRAVE 100", JUDGE + "cause p a 99 100;", 2, 25);
    }

    // "pass on DAYS of the week 0 .. 127 (bits; bit 0: Monday), EARS 0 .. 9".
    private static void numbersOfClerks() {
        fine("DAYS 0 and EARS 0", "clerk k 0 0;");
        fine("DAYS 127 and EARS 9", "clerk k 127 9;");
        fault("DAYS 128", "clerk k 128 9;", 2, 8);
        fault("EARS 10", "clerk k 127 10;", 2, 12);
    }

    // "DAMP ..: 0 .. 9"; "beat: 0 .. 9".
    private static void numbersOfDampAndBeat() {
        fine("DAMP 0 and 9", "damp 0;damp 9;");
        fault("DAMP 10", "damp 9;damp 10;", 2, 12);
        fine("beat 0", "beat 0;");
        fine("beat 9", "beat 9;");
        fault("beat 10", "beat 10;", 2, 5);
    }

    // "N of E 0 .. 9999".
    private static void numbersOfLaws() {
        fine("N 0", "law fly 0;");
        fine("N 9999", "law fly 9999;");
        fault("N 10000", "law fly 10000;", 2, 8);
        fault("N 9999 and a digit", "law fly 99990;", 2, 8);
        fault("N 9999 and another digit", "law fly 99999;", 2, 8);
        fault("N 9998 and a digit", "law fly 99980;", 2, 8);
        fault("N 1000 and a digit", "law fly 10009;", 2, 8);
        fault("N 10000 as a right side", "law fly 9999+10000;", 2, 13);
        fault("N 10000 in brackets", "law fly (10000);", 2, 9);
    }

    // "JUDGES, at most 5"; "a sixth judge and so on (at the word of the LINE)".
    private static void sixthJudge() {
        String five = "judge a 1 1;judge b 1 1;judge c 1 1;judge d 1 1;judge e 1 1;";
        fine("five judges", five);
        faultBehind("a sixth judge", five, "judge f 1 1;", 2);
        faultBehind("a sixth judge at the length", five, "judge", 2);
        faultBehind("a sixth judge whose name is told", five, "judge a 1 1;", 2);
        faultBehind("a sixth judge with a wrong line", five, "judge ! 100 !", 2);
        fine("others behind five judges", five + "cause a e 1 1;clerk a 1 1;damp 1;beat 1;law fly 1;");
    }

    // "CASES (cause), at most 10".
    private static void eleventhCase() {
        StringBuilder ten = new StringBuilder(JUDGE);
        for (char name = 'a'; name < 'a' + 10; name++) {
            ten.append("cause ").append(name).append(" a 1 1;");
        }
        fine("ten cases", ten.toString());
        faultBehind("an eleventh case", ten.toString(), "cause k a 1 1;", 2);
        faultBehind("an eleventh case with a wrong line", ten.toString(), "cause a b 100 1;", 2);
        fine("others behind ten cases", ten + "judge b 1 1;clerk a 1 1;");
    }

    // "CLERKS, at most 5".
    private static void sixthClerk() {
        String five = "clerk a 1 1;clerk b 1 1;clerk c 1 1;clerk d 1 1;clerk e 1 1;";
        fine("five clerks", five);
        faultBehind("a sixth clerk", five, "clerk f 1 1;", 2);
        faultBehind("a sixth clerk at the length", five + " ", "clerk", 2);
        fine("others behind five clerks", five + JUDGE);
    }

    // "DAMP, at most 8".
    private static void ninthDamp() {
        String eight = Checks.times("damp 1;", 8);
        fine("eight damps", eight);
        faultBehind("a ninth damp", eight, "damp 1;", 2);
        faultBehind("a ninth damp of too much", eight, "damp 10;", 2);
        fine("others behind eight damps", eight + "beat 1;");
    }

    // "2 .. a ninth '(' open".
    private static void ninthBracket() {
        String eight = "law fly " + Checks.times("(", 8);
        fine("eight open", eight + "1" + Checks.times(")", 8) + ";");
        faultBehind("a ninth open", eight, "(1" + Checks.times(")", 9) + ";", 2);
        faultBehind("a ninth open at the length", eight, "(", 2);
        faultBehind("a ninth open behind not", eight + "not ", "(1)", 2);
        faultBehind("a ninth open behind a sign", eight + "1+", "(1)", 2);
        fine("eight, closed, and eight again",
                eight + "1" + Checks.times(")", 8) + "+" + Checks.times("(", 8) + "1" + Checks.times(")", 8) + ";");
        fine("one closed, and one more", eight + "1)+(1" + Checks.times(")", 8) + ";");
        faultBehind("one closed, and two more", eight + "1)+(", "(1", 2);
        String say = "law say " + Checks.times("(", 8) + "1" + Checks.times(")", 8) + ";";
        fine("eight in another law", say + eight + "1" + Checks.times(")", 8) + ";");
        faultBehind("a ninth in another law", say + eight, "(", 2);
    }

    // "2 .. a 65th KNOT of all E".
    private static void knots64() {
        fine("64 knots", FULL + ";");
        CHECKS.due("42 64 knots", Checks.court(FULL + ";").count(3), 64);
        fine("64 knots and a side at last", "law fly 1" + Checks.times("+1", 30) + " and not 1;");
        faultBehind("a 65th knot", FULL, "+1;", 2);
        fine("64 knots of not", "law fly " + Checks.times("not ", 63) + "1;");
        faultBehind("65 knots, most of not", "law fly " + Checks.times("not ", 64), "1;", 2);
        fine("brackets are no knots", "law fly (not 1" + Checks.times("+(1)", 31) + ");");
        faultBehind("the place of the 65th, not of what is behind it", FULL, "+10000;", 2);
    }

    // "(N, NAMES, signs, not, and, or: one each)".
    private static void knot65OfEachKind() {
        for (String sign : SIGNS) {
            String ahead = sign.startsWith(" ") ? FULL + " " : FULL;
            faultBehind("the 65th is " + sign, ahead, sign.trim() + " 1;", 2);
            CHECKS.due("42 knots of 1" + sign + "2", Checks.court("law fly 1" + sign + "2;").count(3), 3);
        }
        faultBehind("the 65th is a number", FULL_BUT_ONE_SIDE, "1;", 2);
        faultBehind("the 65th is not", FULL_BUT_ONE_SIDE, "not 1;", 2);
        faultBehind("the 65th is behind a bracket", FULL_BUT_ONE_SIDE + "(", "1);", 2);
        String[] names = {"lean", "stiff", "grave", "plump", "moist", "sure", "day"};
        for (String name : names) {
            faultBehind("the 65th is " + name, FULL_BUT_ONE_SIDE, name + ";", 2);
            CHECKS.due("42 knots of " + name, Checks.court("law fly " + name + ";").count(3), 1);
        }
        CHECKS.due("42 knots of not", Checks.court("law fly not 1;").count(3), 2);
        CHECKS.due("42 knots of brackets", Checks.court("law fly ((1));").count(3), 1);
    }

    // "of all E": those of all laws together; a text behind it counts anew.
    private static void knotsOfAllLaws() {
        String most = "law think 1" + Checks.times("+1", 15) + ";law say 1" + Checks.times("+1", 15) + ";";
        fine("31 and 31 and 2", most + "law fly not 1;");
        faultBehind("31 and 31 and 3", most + "law fly not not ", "1;", 2);
        CushionCourt court = Checks.court(FULL + ";");
        CHECKS.due("3 64 knots once more", Checks.tell(court, FULL + ";"), 1);
        CHECKS.due("3 65 knots", Checks.tell(court, FULL + "+1;"), -1);
        CHECKS.due("3 64 knots behind a fault", Checks.tell(court, FULL + ";"), 1);
        CHECKS.due("42 knots of the latest text", Checks.tell(court, "beat 1;") + court.count(3), 1);
    }

    // "FAULTS, the first along the text (of one place the least)".
    private static void leastOfOnePlace() {
        faultBehind("too much of a number where none can stand", "damp 1 ", "10;", 1);
        faultBehind("too much of a number where a name must stand", "judge ", "10000 1 1;", 1);
        faultBehind("too much of an E's number where none can stand", "law fly 1 ", "10000;", 1);
        faultBehind("a ninth bracket where none can stand", "law fly " + Checks.times("(", 8) + "1", "(1);", 1);
        faultBehind("a 65th knot that can't stand: a number", FULL + " ", "1;", 1);
        faultBehind("a 65th knot that can't stand: a name", FULL + " ", "lean;", 1);
        faultBehind("a 65th knot that can't stand: not", FULL + " ", "not 1;", 1);
        faultBehind("a 65th knot that can't stand: a sign", FULL_BUT_ONE_SIDE, "+1;", 1);
        faultBehind("a 65th knot that can't stand: or", FULL_BUT_ONE_SIDE, "or 1;", 1);
        String compared = "law fly not 1<1" + Checks.times("+1", 30);
        faultBehind("a 65th knot that can't stand: a second comparison", compared, "<1;", 1);
        faultBehind("a 65th knot that can stand there", compared, "+1;", 2);
        String added = "law fly 1" + Checks.times("+1", 31) + "+";
        faultBehind("a 65th knot that can't stand: not behind a sign", added, "not 1;", 1);
        faultBehind("a 65th knot that is too much itself", FULL_BUT_ONE_SIDE, "10000;", 2);
        faultBehind("no token behind 64 knots", FULL, "!", 1);
        faultBehind("the length behind 64 knots", FULL, "", 1);
    }

    // "the first along the text": what comes behind it is of no account.
    private static void firstAlongTheText() {
        fault("too much twice", "judge a 100 10;", 2, 8);
        fault("too much, then no token", "judge a 100 !;", 2, 8);
        fault("no token, then too much", "judge a ! 10;", 1, 8);
        fault("told already, then too much", JUDGE + "judge a 100 1;", 3, 18);
        fault("too much, then told already", "judge a 100 1;judge a 1 1;", 2, 8);
        fault("not told ahead, then too much", "cause p a 100 1;", 4, 8);
        fault("told already, then not told ahead", JUDGE + "cause p a 1 1;cause p z 1 1;", 3, 32);
        fault("a fault of a line ahead of one that can't be", "beat 10;;", 2, 5);
        fault("beat told already, then too much", "beat 1;beat 10;", 3, 7);
        fault("law told already, then no token", "law fly 1;law fly !", 3, 14);
        fault("a line without end ahead of another fault", "damp 1 damp 10;", 1, 7);
        fault("a line's word that is none, then too much", "x 100;", 1, 0);
    }

    // "3 told already: a name of its kind (at W)".
    private static void nameTold() {
        fault("a judge told", JUDGE + "judge a 1 1;", 3, 18);
        fault("a judge told, not the latest", JUDGE + "judge b 1 1;judge a 1 1;", 3, 30);
        fault("a case told", JUDGE + "cause p a 1 1;cause p a 1 1;", 3, 32);
        fault("a clerk told", "clerk k 1 1;clerk k 1 1;", 3, 18);
        fine("the same name of three kinds", JUDGE + "cause a a 1 1;clerk a 1 1;");
        fine("a name that another one begins with", "judge ab 1 1;judge a 1 1;judge abcdef 1 1;judge abcde 1 1;");
        fault("six letters told", "judge abcdef 1 1;judge abcdef 1 1;", 3, 23);
        fine("the last of six letters differs", "judge abcdef 1 1;judge abcdeg 1 1;");
        CushionCourt court = Checks.court(JUDGE);
        CHECKS.due("3 a name of the text ahead isn't told", Checks.tell(court, JUDGE), 1);
        CHECKS.due("3 a name of a text with a fault", Checks.tell(court, "judge b 1 1;!"), -1);
        CHECKS.due("3 a name of a text with a fault isn't told", Checks.tell(court, "judge b 1 1;"), 1);
    }

    // "3 told already: .. beat (at the word)".
    private static void beatTold() {
        fine("beat once", "beat 1;");
        fault("beat twice", "beat 1;beat 1;", 3, 7);
        fault("beat twice, first 0", "beat 0;damp 1; beat 0;", 3, 15);
        fault("beat twice at the length", "beat 1;beat", 3, 7);
        fine("damp twice", "damp 1;damp 1;");
        CushionCourt court = Checks.court("beat 1;");
        CHECKS.due("3 beat of the text ahead isn't told", Checks.tell(court, "beat 2;"), 1);
    }

    // "3 told already: .. a law of its LAW (at LAW)".
    private static void lawTold() {
        String[] laws = {"think", "say", "fly"};
        for (String law : laws) {
            fault("a law told", "law " + law + " 0;law " + law + " 1;", 3, law.length() + 11);
            fault("a law told at the length", "law " + law + " 0;law " + law, 3, law.length() + 11);
            for (String other : laws) {
                if (!other.equals(law)) {
                    fine("another law", "law " + law + " 1;law " + other + " 1;");
                }
            }
        }
        for (String word : LANGUAGE) {
            if (!Arrays.asList(laws).contains(word)) {
                fault("a law of none", "law " + word + " 1;", 1, 4);
            }
        }
        fault("a law without its word", "law 1;", 1, 4);
        String numbers = "law 5 1;law 6 1;law 7 1;law 8 1;law 9 1;";
        for (int i = 0; i < 5; i++) {
            fault("a law of a number", numbers.substring(8 * i), 1, 4);
        }
        fault("a law of nothing", "law;", 1, 3);
        fault("a law of a sign", "law + 1;", 1, 4);
        for (String law : laws) {
            CushionCourt court = Checks.court("law " + law + " 1;");
            CHECKS.due("3 a law of the text ahead isn't told", Checks.tell(court, "law " + law + " 2;"), 1);
            CHECKS.due("3 a fault with a law", Checks.tell(court, "law " + law + " 3;!"), -1);
            CHECKS.due("3 a law of a text with a fault isn't told", Checks.tell(court, "law " + law + " 4;"), 1);
        }
    }

    // "4 a JUDGE that isn't told ahead (at W)".
    private static void judgeToldAhead() {
        fine("told ahead", JUDGE + "cause p a 1 1;");
        fault("told behind", "cause p a 1 1;" + JUDGE, 4, 8);
        fault("not told", JUDGE + "cause p b 1 1;", 4, 20);
        fault("a longer name", JUDGE + "cause p aa 1 1;", 4, 20);
        fault("a name of a clerk", "clerk k 1 1;" + JUDGE + "cause p k 1 1;", 4, 32);
        fault("its own name", JUDGE + "cause p p 1 1;", 4, 20);
        fault("no name at all", JUDGE + "cause p 1 1;", 1, 20);
        CushionCourt court = Checks.court(JUDGE);
        CHECKS.due("3 told in the text ahead", Checks.tell(court, "cause p a 1 1;"), -1);
        CHECKS.due("4 told in the text ahead", court.fault(0), 4);
    }

    // "A = (or > behind <) right behind < or > belongs to it."
    private static void signsRightBehind() {
        String[] fine = {"<", "<=", "=", "<>", ">=", ">"};
        for (String sign : fine) {
            fine("a comparison", "law fly 1" + sign + "2;");
        }
        fault("= behind a blank behind <", "law fly 1< =2;", 1, 11);
        fault("> behind a blank behind <", "law fly 1< >2;", 1, 11);
        fault("= behind a blank behind >", "law fly 1> =2;", 1, 11);
        fault("< right behind >", "law fly 1><2;", 1, 10);
        fault("> right behind >", "law fly 1>>2;", 1, 10);
        fault("< right behind <", "law fly 1<<2;", 1, 10);
        fault("= right behind =", "law fly 1==2;", 1, 10);
        fault("< right behind =", "law fly 1=<2;", 1, 10);
        fault("> right behind =", "law fly 1=>2;", 1, 10);
        fault("= right behind <=", "law fly 1<==2;", 1, 11);
        fault("> right behind <>", "law fly 1<>>2;", 1, 11);
        CushionCourt court = new CushionCourt();
        Checks.feed(court, "law fly 1<=2;");
        CHECKS.due("3 < at the length, = behind it", court.text(10), -1);
        CHECKS.due("4 < at the length, place", court.fault(1), 10);
    }

    // "C: S [ ( < | <= | = | <> | >= | > ) S ]": at most one comparison.
    private static void oneComparison() {
        String[] signs = {"<", "<=", "=", "<>", ">=", ">"};
        for (String sign : signs) {
            fault("a second comparison", "law fly 1<2" + sign + "3;", 1, 11);
            fault("a second comparison, the first " + sign, "law fly 1" + sign + "2<3;", 1, 10 + sign.length());
        }
        fault("a second one behind a sum", "law fly 1<2+3*4<5;", 1, 15);
        fine("one on each side of and", "law fly 1<2 and 3<4 or 5<6;");
        fine("one in brackets", "law fly (1<2)<(3<4);");
        fine("one behind not", "law fly not 1<2;");
        fault("two behind not", "law fly not 1<2<3;", 1, 15);
        fault("two in brackets", "law fly (1<2<3);", 1, 12);
    }

    // "B: not B | C": not may stand ahead of a comparison, not in it.
    private static void notOnlyAheadOfComparisons() {
        fine("not first", "law fly not 1;");
        fine("not behind not", "law fly not not 1;");
        fine("not behind and", "law fly 1 and not 1;");
        fine("not behind or", "law fly 1 or not 1;");
        fine("not behind (", "law fly 1+(not 1);");
        String[] signs = {"+", "-", "*", "/", "<", "<=", "=", "<>", ">=", ">"};
        for (String sign : signs) {
            fault("not behind " + sign, "law fly 1" + sign + "not 1;", 1, 9 + sign.length());
        }
        fault("not behind a side", "law fly 1 not 1;", 1, 10);
        fault("not behind )", "law fly (1)not 1;", 1, 11);
        fault("not alone", "law fly not;", 1, 11);
        fault("not ahead of and", "law fly not and 1;", 1, 12);
    }

    // A text with a fault leaves nothing behind for the next one: no open brackets, no signs, no KNOTS.
    private static void nothingIsLeftOfAFault() {
        String[] faults = {"law fly " + Checks.times("(", 8), "law fly 1+1*(1<(", "law fly not not not",
            "law fly 1<2 and"};
        String eight = "law fly " + Checks.times("(", 8) + "7" + Checks.times(")", 8) + ";judge a 1 1;";
        for (String fault : faults) {
            CushionCourt court = new CushionCourt();
            CHECKS.due("3 " + fault, Checks.tell(court, fault), -1);
            CHECKS.due("3 eight brackets behind " + fault, Checks.tell(court, eight), 2);
            CHECKS.due("11 their value behind " + fault, court.law(2, 0), 7);
            CHECKS.due("3 " + fault + " again", Checks.tell(court, fault), -1);
            CHECKS.due("3 64 knots behind " + fault, Checks.tell(court, FULL + ";judge a 1 1;"), 2);
            CHECKS.due("11 64 knots behind " + fault, court.law(2, 0), 0);
            CHECKS.due("3 " + fault + " once more", Checks.tell(court, fault), -1);
            CHECKS.due("3 one more closed behind " + fault, Checks.tell(court, "law fly 1);"), -1);
        }
    }

    // The same, if many texts with a fault come one behind another.
    private static void nothingIsLeftOfManyFaults() {
        CushionCourt court = new CushionCourt();
        for (int i = 0; i < 40; i++) {
            CHECKS.due("3 open brackets", Checks.tell(court, "law fly " + Checks.times("(", 8) + "1+"), -1);
        }
        CHECKS.due("3 behind forty faults", Checks.tell(court, FULL + ";judge a 1 1;"), 2);
        CHECKS.due("11 behind forty faults", court.law(2, 0), 0);
        CHECKS.due("42 behind forty faults", court.count(3), 64);
    }

    // "P: N | NAME | '(' E ')'".
    private static void brackets() {
        fine("a number", "law fly 1;");
        fine("a name", "law fly day;");
        fine("brackets", "law fly (1);");
        fault("nothing", "law fly ;", 1, 8);
        fault("nothing in brackets", "law fly ();", 1, 9);
        fault("one closed too many", "law fly (1));", 1, 11);
        fault("one closed too few", "law fly ((1);", 1, 12);
        fault("a side behind )", "law fly (1)2;", 1, 11);
        fault("( behind a side", "law fly 1(2);", 1, 9);
        fault(") behind a sign", "law fly (1+);", 1, 11);
        fault("a sign first", "law fly *1;", 1, 8);
        fault("a word of lines", "law fly judge;", 1, 8);
        fault("a word of laws", "law fly fly;", 1, 8);
    }
}
