import java.lang.reflect.Constructor;
import java.lang.reflect.Field;
import java.lang.reflect.Member;
import java.lang.reflect.Method;
import java.lang.reflect.Modifier;
import java.nio.file.Files;
import java.nio.file.Path;
import java.util.Arrays;
import java.util.Set;
import java.util.TreeSet;
import java.util.regex.Matcher;
import java.util.regex.Pattern;
import java.util.stream.Collectors;

/** The public face is the document's and no more; some rules of LANGUAGE.md; the room that a long run needs. */
public final class FaceTest {
    private static final String[] FACE = {
        "QuizLeague()", "int feed(int,int,int,int,int)", "boolean end(int)", "int question(int)", "int takes(int)",
        "boolean strike(int,boolean)", "int asked(int,int)", "boolean seen(int,int)", "int law()", "int fault()",
        "int pack(int,int,int,int,int,int)", "int packed(int)", "boolean begin()", "int answer(int)",
        "boolean nothing(int)", "boolean dead()", "boolean appeal(int,boolean)", "boolean undo()", "int now(int)",
        "int event(int,int)", "boolean finish()", "boolean call()", "int table(int,int)", "int count(int)", "int NONE",
    };
    private static final long MOST_BYTES_OF_A_RUN = 1_000_000;

    public static void main(String[] args) throws Exception {
        face();
        rules();
        room();
        Checks.close("FaceTest");
    }

    private static void same(String what, Object got, Object want) {
        Checks.due(what + ": " + got + ", due is " + want, got.equals(want), true);
    }

    private static String typesOf(Class<?>[] types) {
        return Arrays.stream(types).map(Class::getName).collect(Collectors.joining(","));
    }

    private static void addIfSeen(Set<String> seen, Member member, String text) {
        if (!Modifier.isPrivate(member.getModifiers()) && !member.isSynthetic()) {
            seen.add(text);
            Checks.due(text + " is public", Modifier.isPublic(member.getModifiers()), true);
        }
    }

    private static void face() {
        Set<String> seen = new TreeSet<>();
        for (Constructor<?> c : QuizLeague.class.getDeclaredConstructors()) {
            addIfSeen(seen, c, "QuizLeague(" + typesOf(c.getParameterTypes()) + ")");
        }
        for (Method m : QuizLeague.class.getDeclaredMethods()) {
            addIfSeen(seen, m, m.getReturnType() + " " + m.getName() + "(" + typesOf(m.getParameterTypes()) + ")");
        }
        for (Field f : QuizLeague.class.getDeclaredFields()) {
            addIfSeen(seen, f, f.getType() + " " + f.getName());
        }
        same("the face", seen, new TreeSet<>(Arrays.asList(FACE)));
        same("the class", Modifier.toString(QuizLeague.class.getModifiers()), "public final");
        Checks.due("NONE", QuizLeague.NONE, -1);
    }

    private static void rules() throws Exception {
        Set<String> names = Arrays.stream(QuizLeague.class.getDeclaredMethods())
            .filter(m -> Modifier.isPublic(m.getModifiers())).map(Method::getName).collect(Collectors.toSet());
        Class<?>[] inside = QuizLeague.class.getDeclaredClasses();
        Checks.due("rule 11: classes", inside.length <= 12, true);
        for (Class<?> c : inside) {
            Checks.due("rule 1: " + c + " is static", Modifier.isStatic(c.getModifiers()), true);
            for (Method m : c.getDeclaredMethods()) {
                Checks.due("rule 1: the name of " + m, names.contains(m.getName()), false);
                Checks.due("rule 11: parameters of " + m, m.getParameterCount() <= 7, true);
            }
            for (Field f : c.getDeclaredFields()) {
                boolean isChanging = Modifier.isStatic(f.getModifiers()) && !Modifier.isFinal(f.getModifiers());
                Checks.due("rule 5: " + f, isChanging, false);
            }
        }
        String source = Files.readString(Path.of("src/main/java/QuizLeague.java"));
        Matcher imports = Pattern.compile("(?m)^import (.*);$").matcher(source);
        while (imports.find()) {
            Checks.due("rule 4: " + imports.group(1), imports.group(1).matches("java\\.util\\.(Arrays|NoSuchElementException)"), true);
        }
        for (String ruledOut : new String[] {"->", "::", "catch", "finally", "synchronized", "assert ", "Exact(", "%=", "java.io"}) {
            Checks.due("ruled out: " + ruledOut, source.contains(ruledOut), false);
        }
        Checks.due("rule 3: signs", source.chars().allMatch(c -> c < 128), true);
    }

    /** A field or element takes four bytes or more, so few bytes are few of these. */
    private static void room() {
        com.sun.management.ThreadMXBean threads =
            (com.sun.management.ThreadMXBean) java.lang.management.ManagementFactory.getThreadMXBean();
        dearRun();
        long ahead = threads.getCurrentThreadAllocatedBytes();
        dearRun();
        long taken = threads.getCurrentThreadAllocatedBytes() - ahead;
        Checks.due("bytes of a dear run: " + taken, taken < MOST_BYTES_OF_A_RUN, true);
    }

    private static void dearRun() {
        Desk d = new Desk();
        String dear = "{a,b,c,d,e}".repeat(18);
        for (int k = 0; k < 60; k++) {
            d.question(k % 8, dear);
        }
        String answer = "e d c b a ".repeat(4);
        for (int k = 0; k < 60; k++) {
            d.takes(k, answer);
        }
        d.law("round 8 buzz right 0;".repeat(6));
        for (int k = 0; k < 20; k++) {
            d.pack(0, 1, 5, 0, 1, 100000);
        }
    }
}
