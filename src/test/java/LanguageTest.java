import java.lang.reflect.Constructor;
import java.lang.reflect.Field;
import java.lang.reflect.Method;
import java.lang.reflect.Modifier;
import java.nio.file.Files;
import java.nio.file.Path;
import java.util.ArrayList;
import java.util.Arrays;
import java.util.List;
import java.util.Set;
import java.util.TreeSet;
import java.util.regex.Matcher;
import java.util.regex.Pattern;

/** The face is the document's and no more, the source keeps to the plain part of Java, and calls make no objects. */
public final class LanguageTest {
    private static final String FACE = "feed(int,int,int,int,int)int text(int)int fault(int)int named(int,int)int "
            + "cause(int,int)int judge(int,int)int feather(int,int)int knows(int)int damp(int)int law(int,int)long "
            + "exchange(int,int)boolean keepIn(int,boolean)boolean restuff(int)int give(int,int)boolean days(int)int "
            + "ahead(int,int)int airing(int,int)int away()int given(int)int lot(int,int)int clashes()int "
            + "bold(int,int)int rests(int)int rest(int,int)int empties(int)int plumpest()int gossip(int)int "
            + "learns(int,int)int plump(int,int)int find(int,int,boolean)int strike(int)int known(int)boolean "
            + "ways()int whose(int)int leans(int)int chance(int,int,int)int tried(int,int,int)int undo()int "
            + "keep()int back()int count(int)int";
    private static final Checks CHECKS = new Checks();

    public static void main(String[] args) throws Exception {
        face();
        source(Files.readString(Path.of("src/main/java/CushionCourt.java")));
        room();
        CHECKS.end("LanguageTest");
    }

    private static void is(String what, boolean is) {
        CHECKS.due(what, is, true);
    }

    private static void face() {
        Set<String> due = new TreeSet<>(Arrays.asList(FACE.split(" ")));
        Set<String> got = new TreeSet<>();
        Set<String> publicNames = new TreeSet<>();
        List<String> privateNames = new ArrayList<>();
        for (Method method : CushionCourt.class.getDeclaredMethods()) {
            if (Modifier.isPrivate(method.getModifiers())) {
                privateNames.add(method.getName());
                continue;
            }
            StringBuilder face = new StringBuilder(method.getName()).append('(');
            for (Class<?> type : method.getParameterTypes()) {
                face.append(face.charAt(face.length() - 1) == '(' ? "" : ",").append(type.getName());
            }
            got.add(face.append(')').append(method.getReturnType().getName()).toString());
            publicNames.add(method.getName());
            is(method + " is public", Modifier.isPublic(method.getModifiers()));
        }
        is("the face is " + got, got.equals(due));
        for (Class<?> inside : CushionCourt.class.getDeclaredClasses()) {
            is(inside + " is static", Modifier.isStatic(inside.getModifiers()));
            for (Method method : inside.getDeclaredMethods()) {
                privateNames.add(method.getName());
            }
        }
        for (String name : privateNames) {
            is(name + " isn't of the face", !publicNames.contains(name));
        }
        for (Field field : CushionCourt.class.getDeclaredFields()) {
            is(field + " is private", Modifier.isPrivate(field.getModifiers()) || field.getName().equals("NONE"));
        }
        Constructor<?>[] made = CushionCourt.class.getDeclaredConstructors();
        is("one constructor", made.length == 1 && Modifier.isPublic(made[0].getModifiers()));
        is("final", Modifier.isFinal(CushionCourt.class.getModifiers()));
        is("at most twelve classes", CushionCourt.class.getDeclaredClasses().length < 12);
    }

    private static void source(String source) {
        String[] never = {"->", "::", "\\bfinally\\b", "\\bcatch\\b", "\\bassert\\b", "\\bsynchronized\\b", "\\bvar\\b",
            "\\bdouble\\b", "\\bfloat\\b", "Exact\\b", "\\bpackage\\b", "\\bSystem\\.(?!arraycopy)", "\\bObject\\b",
            "\"\\s*\\+", "\\+\\s*\"", "static \\{", "\\bprotected\\b", "[^\\x00-\\x7f]"};
        for (String form : never) {
            is("no " + form, !Pattern.compile(form).matcher(source).find());
        }
        Matcher imports = Pattern.compile("import (.*);").matcher(source);
        while (imports.find()) {
            is("import of " + imports.group(1), imports.group(1).equals("java.util.NoSuchElementException"));
        }
        Matcher fields = Pattern.compile("\\bstatic (?!final|int \\w+\\(|long \\w+\\(|boolean \\w+\\()").matcher(source);
        is("static fields are final", !fields.find());
        Matcher methods = Pattern.compile("(?ms)^( +)(?:private |public |static )*[\\w\\[\\]]+ \\w+\\(([^)]*)\\)[^;{]*\\{\n"
                + "(.*?)^\\1\\}").matcher(source);
        while (methods.find()) {
            is("lines of " + methods.group(), methods.group().split("\n").length <= 60);
            is("parameters of " + methods.group(2), methods.group(2).split(",").length <= 7);
        }
    }

    /** Bytes made by this thread; a call that makes objects would show over so many calls. */
    private static void room() {
        com.sun.management.ThreadMXBean threads =
                (com.sun.management.ThreadMXBean) java.lang.management.ManagementFactory.getThreadMXBean();
        long before = threads.getCurrentThreadAllocatedBytes();
        CushionCourt court = new CushionCourt();
        long made = threads.getCurrentThreadAllocatedBytes() - before;
        is("an object of " + made + " bytes is small", made < 16000);
        int[][] text = new int[20][];
        String told = "judge a 50 0;judge b 20 7;law say not (grave>lean);law fly plump/2+1;cause p a 1 10;"
                + "cause q a 1 80;cause r b 9 11;clerk k 127 9;damp 4;damp 7;beat 2;";
        int pieces = 0;
        for (int i = 0; i < told.length(); i += 20) {
            text[pieces++] = Checks.numbers(told, i);
        }
        before = threads.getCurrentThreadAllocatedBytes();
        for (int i = 0; i < 200; i++) {
            for (int k = 0; k < pieces; k++) {
                court.feed(text[k][0], text[k][1], text[k][2], text[k][3], text[k][4]);
            }
            court.text(told.length());
            court.days(3);
            callAll(court);
        }
        made = threads.getCurrentThreadAllocatedBytes() - before;
        is("calls made " + made + " bytes", made < 8000);
    }

    private static void callAll(CushionCourt court) {
        court.exchange(0, 1);
        court.keepIn(0, true);
        court.restuff(1);
        court.give(2, 0);
        court.undo();
        court.keep();
        court.back();
        court.find(0, 0, true);
        court.strike(0);
        court.known(1);
        for (int i = 0; i < 7; i++) {
            court.ahead(20, i);
            court.airing(4, i);
            court.given(i);
            court.tried(i, 0, 20);
            court.law(i, 0);
            court.count(i);
            court.judge(0, i);
            court.lot(0, i);
            court.bold(0, i);
            court.named(i, 1 << 25);
        }
        court.away();
        court.clashes();
        court.rests(0);
        court.rest(0, 0);
        court.empties(0);
        court.plumpest();
        court.gossip(0);
        court.learns(0, 99);
        court.plump(0, 99);
        court.ways();
        court.whose(0);
        court.leans(0);
        court.chance(1, 9, 1);
        court.fault(0);
        court.cause(0, 0);
        court.feather(0, 0);
        court.knows(0);
        court.damp(0);
    }
}
