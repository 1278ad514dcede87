import java.util.ArrayList;
import java.util.List;
import java.util.Random;
import java.util.regex.Matcher;
import java.util.regex.Pattern;

/** Makes texts by chance: right ones, and ones with something spoiled. */
final class TextMaker {
    private static final String[] SIGNS = {"<", "<=", "=", "<>", ">=", ">"};
    private static final String[] BOLD = {"not (grave > lean)", "grave <= lean", "moist < 5", "1 - (grave > lean)",
        "grave > lean and plump > 3 or lean >= grave", "sure > 5"};
    private static final String[] NAMES = {"lean", "stiff", "grave", "plump", "moist", "sure", "day"};
    private static final String[] BITS = {"judge", "cause", "clerk", "damp", "beat", "law", "think", "say", "fly", "or",
        "and", "not", "lean", "plump", "a", "b", "toolong", "sixsix", "0", "9", "10", "99", "100", "127", "128", "9999",
        "10000", "99999999999999999999", "007", ";", "(", ")", "<", "<=", "<>", "=", ">", ">=", "+", "-", "*", "/", "!",
        "A", "\t", "\u00e9", "\n", "><", "=<", "(((((((((", "beat 1;", "damp 1;", "law fly 1;", "judge a 1 1;"};

    private final Random random;

    TextMaker(Random random) {
        this.random = random;
    }

    static String name(Random random) {
        String[] names = {"a", "b", "c", "d", "e", "f", "g", "h", "i", "j", "judgy", "z", "abcdef", "zzzzzz", "ab"};
        return names[random.nextInt(names.length)];
    }

    private String blank() {
        return random.nextInt(10) == 0 ? random.nextBoolean() ? "\n" : "  " : " ";
    }

    private List<String> freshNames(int many) {
        List<String> names = new ArrayList<>();
        while (names.size() < many) {
            String name = name(random);
            if (!names.contains(name)) {
                names.add(name);
            }
        }
        return names;
    }

    private int few(int most) {
        return random.nextInt(3) == 0 ? most : random.nextInt(most + 1);
    }

    String text() {
        String text;
        do {
            text = anyText();
        } while (text.length() > 700);
        return text;
    }

    private String anyText() {
        List<String> lines = new ArrayList<>();
        List<String> judges = freshNames(Math.max(random.nextInt(30) == 0 ? 0 : 1, few(5)));
        List<String> cases = freshNames(judges.isEmpty() ? 0 : random.nextInt(2) == 0 ? 10 : few(10));
        int lean = random.nextInt(100);
        for (String judge : judges) {
            lines.add("judge" + blank() + judge + blank() + near(lean) + blank() + random.nextInt(10));
        }
        int lastDay = random.nextInt(3) == 0 ? 99 : random.nextInt(20);
        boolean oneJudge = random.nextInt(4) == 0;
        for (String cause : cases) {
            String judge = judges.get(oneJudge ? 0 : random.nextInt(judges.size()));
            lines.add("cause " + cause + blank() + judge + " " + random.nextInt(lastDay + 1) + blank() + near(lean));
        }
        for (String clerk : freshNames(few(5))) {
            int days = random.nextInt(128) | (random.nextInt(4) == 0 ? 0 : 1);
            lines.add("clerk " + clerk + " " + days + " " + random.nextInt(10));
        }
        int damps = few(8);
        for (int i = 0; i < damps; i++) {
            lines.add("damp " + random.nextInt(10));
        }
        if (random.nextBoolean()) {
            lines.add("beat " + random.nextInt(random.nextInt(3) == 0 ? 10 : 2));
        }
        laws(lines);
        StringBuilder text = new StringBuilder();
        for (String line : lines) {
            text.append(line).append(random.nextInt(5) == 0 ? " ;\n" : ";");
        }
        return text.toString();
    }

    private int near(int lean) {
        int far = random.nextBoolean() ? 12 : 60;
        return Math.max(0, Math.min(99, lean + random.nextInt(2 * far + 1) - far));
    }

    private void laws(List<String> lines) {
        int room = 64;
        String[] laws = {"think", "say", "fly"};
        for (String law : laws) {
            boolean bold = law.equals("say") && random.nextBoolean();
            if (bold || random.nextInt(3) == 0) {
                String e = bold ? BOLD[random.nextInt(BOLD.length)] : expression(0);
                int knots = knots(e);
                if (knots <= room) {
                    room -= knots;
                    lines.add(random.nextInt(lines.size() + 1), "law " + law + blank() + e);
                }
            }
        }
    }

    private static int knots(String e) {
        Matcher knots = Pattern.compile("[a-z]+|[0-9]+|<=|<>|>=|[-+*/<>=]").matcher(e);
        int many = 0;
        while (knots.find()) {
            many++;
        }
        return many;
    }

    private String expression(int depth) {
        StringBuilder e = new StringBuilder(ands(depth));
        while (random.nextInt(8) == 0) {
            e.append(" or ").append(ands(depth));
        }
        return e.toString();
    }

    private String ands(int depth) {
        StringBuilder e = new StringBuilder(nots(depth));
        while (random.nextInt(8) == 0) {
            e.append(" and ").append(nots(depth));
        }
        return e.toString();
    }

    private String nots(int depth) {
        StringBuilder e = new StringBuilder();
        while (random.nextInt(6) == 0) {
            e.append("not ");
        }
        e.append(sum(depth));
        if (random.nextInt(3) == 0) {
            e.append(blankOrNot()).append(SIGNS[random.nextInt(6)]).append(blankOrNot()).append(sum(depth));
        }
        return e.toString();
    }

    private String blankOrNot() {
        return random.nextBoolean() ? " " : "";
    }

    private String sum(int depth) {
        StringBuilder e = new StringBuilder(product(depth));
        while (random.nextInt(3) == 0) {
            e.append(random.nextBoolean() ? "+" : " - ").append(product(depth));
        }
        return e.toString();
    }

    private String product(int depth) {
        StringBuilder e = new StringBuilder(part(depth));
        while (random.nextInt(4) == 0) {
            e.append(random.nextInt(3) > 0 ? "*" : " / ").append(part(depth));
        }
        return e.toString();
    }

    private String part(int depth) {
        if (depth < 8 && random.nextInt(7) == 0) {
            return "(" + expression(depth + 1) + ")";
        }
        if (random.nextInt(3) > 0) {
            return NAMES[random.nextInt(7)];
        }
        return "" + (random.nextInt(10) == 0 ? random.nextInt(10000) : random.nextInt(12));
    }

    String spoiled() {
        StringBuilder text = new StringBuilder(text());
        int times = 1 + random.nextInt(2);
        for (int i = 0; i < times; i++) {
            int at = random.nextInt(text.length() + 1);
            switch (random.nextInt(4)) {
                case 0:
                    text.insert(at, BITS[random.nextInt(BITS.length)]);
                    break;
                case 1:
                    text.insert(at, " " + BITS[random.nextInt(BITS.length)] + " ");
                    break;
                case 2:
                    if (at < text.length()) {
                        text.deleteCharAt(at);
                    }
                    break;
                default:
                    text.setLength(random.nextInt(3) == 0 ? at : text.length());
            }
        }
        if (text.length() > 700) {
            text.setLength(700);
        }
        return text.toString();
    }
}
