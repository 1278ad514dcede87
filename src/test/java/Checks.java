import java.util.NoSuchElementException;

/** Counts wrong answers, and tells texts to courts. */
final class Checks {
    static final int THROWS_BOUNDS = -1001;
    static final int THROWS_NO_SUCH = -1002;
    static final long ERROR = Long.MIN_VALUE;

    private int right;
    private int wrong;

    void due(String what, long got, long want) {
        if (got == want) {
            right++;
        } else {
            wrong++;
            System.out.println(what + " answered " + got + ", due is " + want);
        }
    }

    void due(String what, boolean got, boolean want) {
        due(what, got ? 1 : 0, want ? 1 : 0);
    }

    /** The answers of one kind of call, in a row. */
    void row(String what, long[] got, long... want) {
        due(what + ": how many", got.length, want.length);
        for (int i = 0; i < Math.min(got.length, want.length); i++) {
            due(what + " [" + i + "]", got[i], want[i]);
        }
    }

    void end(String name) {
        System.out.println(name + ": " + right + " answers right, " + wrong + " wrong");
        if (wrong != 0) {
            System.exit(1);
        }
    }

    static int[] numbers(String text, int from) {
        int[] numbers = new int[5];
        for (int i = 0; i < 20; i++) {
            int sign = from + i < text.length() ? text.charAt(from + i) : ' ';
            numbers[i / 4] = numbers[i / 4] << 8 | sign & 255;
        }
        return numbers;
    }

    static void feed(CushionCourt court, String text) {
        for (int i = 0; i < text.length(); i += 20) {
            int[] x = numbers(text, i);
            court.feed(x[0], x[1], x[2], x[3], x[4]);
        }
    }

    static int tell(CushionCourt court, String text) {
        feed(court, text);
        return court.text(text.length());
    }

    static CushionCourt court(String text) {
        CushionCourt court = new CushionCourt();
        if (tell(court, text) < 0) {
            throw new IllegalArgumentException("fault " + court.fault(0) + " at " + court.fault(1) + ": " + text);
        }
        return court;
    }

    static CushionCourt court(String text, int days) {
        CushionCourt court = court(text);
        court.days(days);
        return court;
    }

    /** Tells a text to a new court: it is refused for this, at this place (0 and NONE: it isn't). */
    void fault(String text, int why, int place) {
        CushionCourt court = new CushionCourt();
        int lines = tell(court, text);
        due("text of " + text, lines >= 0, why == 0);
        due("fault of " + text, court.fault(0), why);
        due("place in " + text, court.fault(1), place);
    }

    /** The same, with the promise and the case that it is about. */
    void fault(String what, String text, int why, int place) {
        CushionCourt court = new CushionCourt();
        int lines = tell(court, text);
        due(what + ", text of " + text, lines >= 0, why == 0);
        due(what + ", fault of " + text, court.fault(0), why);
        due(what + ", place in " + text, court.fault(1), place);
    }

    void fine(String what, String text) {
        fault(what, text, 0, CushionCourt.NONE);
    }

    /** All that can be looked up and that calls may change, to tell whether a refused one changed nothing. */
    static String state(CushionCourt court) {
        StringBuilder state = new StringBuilder();
        for (int what = 0; what <= 12; what++) {
            state.append(court.count(what)).append(' ');
        }
        for (int i = 0; i < court.count(1); i++) {
            for (int what = 0; what <= 5; what++) {
                state.append(cause(court, i, what)).append(',');
            }
        }
        for (int i = 0; i < court.count(0); i++) {
            for (int what = 0; what <= 5; what++) {
                state.append(court.judge(i, what)).append(';');
            }
            for (int k = 0; k < court.judge(i, 3); k++) {
                state.append(court.feather(i, k)).append('.');
            }
        }
        for (int i = 0; i < court.count(2); i++) {
            state.append(court.knows(i)).append('/');
        }
        return state.append(court.ways()).toString();
    }

    void same(String what, String got, String want) {
        if (!got.equals(want)) {
            System.out.println(what + " is " + got + ", due is " + want);
        }
        due(what, got.equals(want), true);
    }

    static int cause(CushionCourt court, int cause, int what) {
        try {
            return court.cause(cause, what);
        } catch (IndexOutOfBoundsException x) {
            return THROWS_BOUNDS;
        } catch (NoSuchElementException x) {
            return THROWS_NO_SUCH;
        }
    }

    static int letters(String name) {
        int letters = 0;
        for (int i = 0; i < 6; i++) {
            letters = letters << 5 | (i < name.length() ? name.charAt(i) - 'a' + 1 : 0);
        }
        return letters;
    }

    static String times(String text, int n) {
        return text.repeat(n);
    }
}
