import java.io.IOException;
import java.lang.reflect.InvocationTargetException;
import java.lang.reflect.Method;
import java.lang.reflect.Modifier;
import java.nio.file.Files;
import java.nio.file.Path;
import java.util.Set;
import java.util.TreeSet;
import java.util.regex.Matcher;
import java.util.regex.Pattern;
import java.util.stream.Stream;

/** What README.md says of calls and answers holds: its example is run line by line. */
public final class ReadmeTest {
    private static final Pattern LINE = Pattern.compile("court\\.(\\w+)\\((.*?)\\); +// (throws )?(-?\\w+): .*");
    private static final Checks CHECKS = new Checks();

    public static void main(String[] args) throws Exception {
        String page = Files.readString(Path.of("README.md"));
        CushionCourt court = example(page.substring(page.indexOf("```java\n") + 8, page.indexOf("\n```\n")).split("\n"));
        everyCallIsTold(page.substring(page.indexOf("The calls, by what they are for:"), page.indexOf("## How to run")));
        everyTestIsTold(page.substring(page.indexOf("## How to run")));
        whatOnlyAsks(page.substring(page.indexOf("- What comes, were days"), page.indexOf("- Whose cushion")));
        numbersOfNothing(court);
        CHECKS.end("ReadmeTest");
    }

    private static CushionCourt example(String[] lines) throws Exception {
        CHECKS.due("the example makes a court", lines[0].equals("CushionCourt court = new CushionCourt();"), true);
        CushionCourt court = new CushionCourt();
        for (int i = 1; i < lines.length; i++) {
            Matcher line = LINE.matcher(lines[i]);
            boolean isCall = line.matches();
            CHECKS.due("the example's line is a call with its answer: " + lines[i], isCall, true);
            if (isCall) {
                CHECKS.same(lines[i], answer(court, line.group(1), line.group(2).split(", ")), line.group(4));
                if (line.group(1).equals("feed")) {
                    fedAsSaid(lines[i], line.group(2).split(", "));
                }
            }
        }
        return court;
    }

    /** The text that stands behind a row of numbers is what these are. */
    private static void fedAsSaid(String line, String[] numbers) {
        StringBuilder text = new StringBuilder();
        for (String number : numbers) {
            int bytes = (int) (long) Long.decode(number);
            for (int shift = 24; shift >= 0; shift -= 8) {
                text.append((char) (bytes >> shift & 255));
            }
        }
        CHECKS.due(line + " is " + text, line.endsWith("\"" + text + "\""), true);
    }

    private static String answer(CushionCourt court, String name, String[] numbers) throws Exception {
        Method method = method(name);
        Class<?>[] types = method.getParameterTypes();
        Object[] values = new Object[types.length];
        for (int i = 0; i < types.length; i++) {
            if (types[i] == boolean.class) {
                values[i] = Boolean.valueOf(numbers[i]);
            } else {
                values[i] = (int) (long) Long.decode(numbers[i]);
            }
        }
        return answer(court, method, values);
    }

    private static String answer(CushionCourt court, Method method, Object[] values) throws Exception {
        try {
            return String.valueOf(method.invoke(court, values));
        } catch (InvocationTargetException x) {
            return x.getCause().getClass().getSimpleName();
        }
    }

    private static Method method(String name) {
        for (Method method : CushionCourt.class.getDeclaredMethods()) {
            if (method.getName().equals(name) && Modifier.isPublic(method.getModifiers())) {
                return method;
            }
        }
        throw new IllegalArgumentException("no call " + name);
    }

    private static void everyCallIsTold(String list) {
        Set<String> told = new TreeSet<>();
        Matcher call = Pattern.compile("`(\\w+)\\(([^)]*)\\)`").matcher(list);
        while (call.find()) {
            int numbers = call.group(2).isEmpty() ? 0 : call.group(2).split(",").length;
            told.add(call.group(1) + " of " + numbers);
        }
        Set<String> calls = new TreeSet<>();
        for (Method method : CushionCourt.class.getDeclaredMethods()) {
            if (Modifier.isPublic(method.getModifiers())) {
                calls.add(method.getName() + " of " + method.getParameterCount());
            }
        }
        CHECKS.same("the list of calls", told.toString(), calls.toString());
    }

    /** Of a court with feathers that clerks could hear, what these calls leave as it was. */
    private static void whatOnlyAsks(String list) throws Exception {
        CHECKS.due("the list says it", list.contains("They change nothing."), true);
        CushionCourt court = Checks.court("judge a 40 6;judge b 70 9;cause p a 0 35;cause q b 1 65;cause r a 9 36;"
                + "clerk k 127 9;damp 6;beat 0;");
        court.keepIn(0, true);
        court.days(2);
        court.exchange(0, 1);
        String before = Checks.state(court);
        Matcher call = Pattern.compile("`(\\w+)\\(([^)]*)\\)`").matcher(list);
        while (call.find()) {
            Method method = method(call.group(1));
            for (int number = 0; number <= 1; number++) {
                Object[] values = new Object[method.getParameterCount()];
                for (int i = 0; i < values.length; i++) {
                    values[i] = i == method.getParameterCount() - 1 ? number : 1 - number;
                }
                answer(court, method, values);
                CHECKS.same("state behind " + call.group(), Checks.state(court), before);
            }
        }
    }

    private static void everyTestIsTold(String list) throws IOException {
        Set<String> told = new TreeSet<>();
        Matcher test = Pattern.compile("`(\\w+Test)`").matcher(list);
        while (test.find()) {
            told.add(test.group(1));
        }
        Set<String> tests = new TreeSet<>();
        try (Stream<Path> files = Files.list(Path.of("src/test/java"))) {
            files.map(file -> file.getFileName().toString().replace(".java", ""))
                    .filter(name -> name.endsWith("Test")).forEach(tests::add);
        }
        CHECKS.same("the list of tests", told.toString(), tests.toString());
    }

    /** What is answered, where a number names nothing or is out of its range; no such call changes anything. */
    private static void numbersOfNothing(CushionCourt court) throws Exception {
        String before = Checks.state(court);
        for (Method method : CushionCourt.class.getDeclaredMethods()) {
            String name = method.getName();
            if (!Modifier.isPublic(method.getModifiers()) || method.getParameterCount() == 0 || name.equals("feed")) {
                continue;
            }
            for (int wild : new int[] {Integer.MIN_VALUE, -7, 10000, Integer.MAX_VALUE}) {
                Object[] values = new Object[method.getParameterCount()];
                for (int i = 0; i < values.length; i++) {
                    values[i] = method.getParameterTypes()[i] == boolean.class ? (Object) true : (Object) wild;
                }
                CHECKS.same(name + " of " + wild, answer(court, method, values), ofNothing(method));
            }
        }
        CHECKS.same("state behind refused calls", Checks.state(court), before);
        Checks.feed(court, "x");
        CHECKS.due("a text with a fault", court.text(1), CushionCourt.NONE);
        CHECKS.due("has left the tape", court.text(1), -2);
        CHECKS.due("fault tells of it", court.fault(0), 1);
        CHECKS.same("state behind a text with a fault", Checks.state(court), before);
    }

    private static String ofNothing(Method method) {
        switch (method.getName()) {
            case "cause":
                return "IndexOutOfBoundsException";
            case "law":
                return "-9223372036854775808";
            case "text":
                return "-2";
            default:
                return method.getReturnType() == boolean.class ? "false" : "-1";
        }
    }
}
