import java.lang.reflect.InvocationTargetException;
import java.lang.reflect.Method;
import java.util.Map;
import java.util.TreeMap;

/**
 * Every call of promises 4 to 42 with every number at and next to a boundary, in every place, held against PlainCourt,
 * on new, nearly empty, full and late objects; nothing but what promise 6 says may be thrown, and a call changes just
 * what it changes there.
 */
public final class EdgeSweepTest {
    private static final int[] EDGES = {Integer.MIN_VALUE, -2, -1, 0, 1, 2, 3, 4, 5, 6, 7, 8, 9, 10, 11, 12, 13, 20, 23,
        24, 25, 98, 99, 100, 9999, 10000, Integer.MAX_VALUE};
    // Of three numbers there are too many threes for all of them.
    private static final int[] FEW_EDGES = {Integer.MIN_VALUE, -1, 0, 1, 2, 4, 5, 98, 99, 100, Integer.MAX_VALUE};
    private static final String ASKING = "fault named cause judge feather knows damp law ahead airing away given lot "
            + "clashes bold rests rest empties plumpest gossip learns plump ways whose leans chance tried count";
    private static final String DOING = "exchange keepIn restuff give days find strike known undo keep back";
    private static final String LAWS = "law say (grave>lean)<>(stiff<6);law fly plump/2+moist/(day-8);";
    private static final String FULL = "judge a 10 0;judge b 30 5;judge c 50 9;judge d 70 4;judge e 90 6;"
            + "cause a a 0 20;cause b b 1 20;cause c c 1 45;cause d d 2 90;cause e e 3 89;cause f a 7 1;cause g b 8 60;"
            + "cause h c 8 60;cause i d 14 60;cause j e 98 95;clerk a 1 0;clerk b 127 1;clerk c 126 9;clerk d 3 9;"
            + "clerk e 65 2;damp 0;damp 9;damp 3;damp 2;damp 5;damp 1;damp 8;damp 4;";
    private static final int STATES = 7;
    private static final int FAR = 6;

    private final Checks checks = new Checks();
    private final Map<String, Method> courtMethods = methodsOf(CushionCourt.class);
    private final Map<String, Method> plainMethods = methodsOf(PlainCourt.class);
    private CushionCourt court;
    private PlainCourt plain;
    private int calls;

    public static void main(String[] args) {
        EdgeSweepTest sweep = new EdgeSweepTest();
        for (int state = 0; state < STATES; state++) {
            for (String name : ASKING.split(" ")) {
                sweep.askAll(state, name);
            }
            for (String name : DOING.split(" ")) {
                sweep.doAll(state, name);
            }
        }
        sweep.checks.end("EdgeSweepTest");
    }

    private static Map<String, Method> methodsOf(Class<?> kind) {
        Map<String, Method> methods = new TreeMap<>();
        for (Method method : kind.getDeclaredMethods()) {
            if ((" " + ASKING + " " + DOING + " feed text ").contains(" " + method.getName() + " ")) {
                method.setAccessible(true);
                methods.put(method.getName(), method);
            }
        }
        return methods;
    }

    private void make(int state) {
        court = new CushionCourt();
        plain = new PlainCourt();
        calls = 0;
        switch (state) {
            case 0:
                break;
            case 1:
                tell("clerk k 1 9;damp 3;law fly 2;");
                break;
            case 2:
                tell("judge a 50 6;cause p a 0 45;");
                break;
            case 3:
                tell(FULL);
                break;
            case 4:
                tell(FULL + LAWS);
                makeBusy();
                break;
            case 5:
                tell(FULL + "beat 9;");
                both("days", 99);
                for (int i = 0; i < 24; i++) {
                    both("find", i % 10, i % 5, 0);
                }
                break;
            default:
                tell(FULL + "beat 0;law say not(grave>lean);");
                for (int i = 0; i < 100; i++) {
                    both("days", 99);
                }
        }
    }

    private void makeBusy() {
        both("days", 9);
        both("keep");
        both("exchange", 0, 4);
        both("keepIn", 2, 1);
        both("restuff", 1);
        both("give", 9, 0);
        both("find", 2, 2, 1);
        both("find", 6, 1, 0);
        both("strike", 0);
        both("known", 2);
    }

    private void tell(String text) {
        for (int i = 0; i < text.length(); i += 20) {
            int[] x = Checks.numbers(text, i);
            court.feed(x[0], x[1], x[2], x[3], x[4]);
            plain.feed(x);
        }
        checks.due("text " + text, court.text(text.length()), plain.text(text.length()));
        checks.due("no fault in " + text, court.fault(0), 0);
        calls += text.length() / 20 + 3;
    }

    private void askAll(int state, String name) {
        make(state);
        int[] edges = courtMethods.get(name).getParameterCount() > 2 ? FEW_EDGES : EDGES;
        for (int[] numbers : combinations(courtMethods.get(name), edges)) {
            // An object is used for at most 512 calls.
            if (calls > 500) {
                make(state);
            }
            both(name, numbers);
        }
    }

    private void doAll(int state, String name) {
        int[] edges = state == FAR ? FEW_EDGES : EDGES;
        if (state == FAR && courtMethods.get(name).getParameterCount() > 1) {
            return;
        }
        boolean isNew = false;
        for (int[] numbers : combinations(courtMethods.get(name), edges)) {
            if (!isNew || calls > 200) {
                make(state);
                isNew = true;
            }
            String before = stateOf(court, courtMethods);
            both(name, numbers);
            String after = stateOf(court, courtMethods);
            checks.same(name + " in state " + state + " leaves", after, stateOf(plain, plainMethods));
            // What known() and keep() change may be seen later only.
            isNew = before.equals(after) && !name.equals("known") && !name.equals("keep");
        }
    }

    private int[][] combinations(Method method, int[] edges) {
        Class<?>[] types = method.getParameterTypes();
        int many = 1;
        for (Class<?> type : types) {
            many *= type == boolean.class ? 2 : edges.length;
        }
        int[][] all = new int[many][types.length];
        for (int i = 0; i < many; i++) {
            int rest = i;
            for (int k = 0; k < types.length; k++) {
                int kinds = types[k] == boolean.class ? 2 : edges.length;
                all[i][k] = types[k] == boolean.class ? rest % kinds : edges[rest % kinds];
                rest /= kinds;
            }
        }
        return all;
    }

    private void both(String name, int... numbers) {
        calls++;
        String got = answer(court, courtMethods.get(name), numbers);
        String want = answer(plain, plainMethods.get(name), numbers);
        if (!got.equals(want)) {
            StringBuilder call = new StringBuilder(name);
            for (int number : numbers) {
                call.append(' ').append(number);
            }
            checks.same(call.toString(), got, want);
        } else {
            checks.due(name, true, true);
        }
    }

    private static String answer(Object of, Method method, int... numbers) {
        Class<?>[] types = method.getParameterTypes();
        Object[] given = new Object[types.length];
        for (int i = 0; i < types.length; i++) {
            given[i] = types[i] == boolean.class ? (Object) (numbers[i] == 1) : (Object) numbers[i];
        }
        try {
            return String.valueOf(method.invoke(of, given));
        } catch (InvocationTargetException x) {
            return x.getCause().getClass().getName();
        } catch (IllegalAccessException x) {
            throw new IllegalStateException(x);
        }
    }

    private String stateOf(Object of, Map<String, Method> methods) {
        StringBuilder state = new StringBuilder();
        for (int what = 0; what <= 12; what++) {
            state.append(answer(of, methods.get("count"), what)).append(' ');
        }
        for (int i = 0; i < 10; i++) {
            state.append(answer(of, methods.get("cause"), i, 0)).append(answer(of, methods.get("cause"), i, 5));
        }
        for (int i = 0; i < 5; i++) {
            state.append(' ').append(answer(of, methods.get("judge"), i, 2));
            state.append(answer(of, methods.get("judge"), i, 4)).append(answer(of, methods.get("feather"), i, 0));
            state.append(answer(of, methods.get("knows"), i));
        }
        calls += of == court ? 53 : 0;
        return state.append(' ').append(answer(of, methods.get("ways"))).toString();
    }
}
