import java.io.IOException;
import java.lang.management.ManagementFactory;
import java.lang.reflect.Constructor;
import java.lang.reflect.Field;
import java.lang.reflect.Method;
import java.lang.reflect.Modifier;
import java.nio.charset.StandardCharsets;
import java.nio.file.Files;
import java.nio.file.Path;
import java.util.Set;
import java.util.TreeSet;
import java.util.regex.Matcher;
import java.util.regex.Pattern;

/** The face of the class and the rules of the language, as far as they can be seen without a compiler. */
public final class RulesTest {
    private static final String[] FACE = {
        "int type(int)", "int clear()", "int program()", "int invariant(int)", "int undo()", "int told(int)",
        "int kind(int)", "int loop(int,int)", "int wrong(int,int,int)", "int spurious(int)", "int from(int,int,int)",
        "int ends(int,int,int,int)", "int keeps(int,int)", "int versions(int)", "int equalities()", "int linear()",
        "long copied()", "int sees(int,int)", "int forget()", "int starts(int)", "int ask()", "int keep(int)",
        "int back(int)", "int count(int)"};
    private static final String[] FORBIDDEN = {
        "\\bthrow\\b", "\\bthrows\\b", "\\btry\\b", "\\bcatch\\b", "\\bsynchronized\\b", "\\bassert\\b", "\\bprotected\\b",
        "\\bpackage\\b", "->", "::", "Exact\\b", "\\bfloat\\b", "\\bdouble\\b", "\\bSystem\\.(?!arraycopy)", "\\bThread\\b",
        "\\bimport (?!java\\.util\\.Arrays;)", "\\bArrays\\.(?!fill\\()", "@", "\\binstanceof\\b", "\\bvar\\b",
        "\\bwhile \\(true\\)", "\\bfor \\(;;\\)", "[^\\x0a\\x20-\\x7e]"};
    /** What an object may take, and what a run of 512 calls may, in bytes. */
    private static final long OBJECT = 1000000, RUN = 20000;

    private static void face() {
        Check.in("face");
        Set<String> due = new TreeSet<>(Set.of(FACE));
        Set<String> got = new TreeSet<>();
        Set<String> hidden = new TreeSet<>();
        for (Method method : PassiveChecks.class.getDeclaredMethods()) {
            if (Modifier.isPrivate(method.getModifiers())) {
                hidden.add(method.getName());
            } else {
                String types = "";
                for (Class<?> type : method.getParameterTypes()) {
                    types += (types.isEmpty() ? "" : ",") + type.getName();
                }
                got.add(method.getReturnType().getName() + " " + method.getName() + "(" + types + ")");
                Check.due(method + " is public alone", method.getModifiers(), Modifier.PUBLIC);
            }
        }
        Check.due("methods " + got, got.equals(due) ? 1 : 0, 1);
        for (String name : namesOfFace()) {
            Check.due("private methods named " + name, hidden.contains(name) ? 1 : 0, 0);
        }
        Constructor<?>[] made = PassiveChecks.class.getDeclaredConstructors();
        Check.due("constructors", made.length, 1);
        Check.due("public constructor", made[0].getModifiers(), Modifier.PUBLIC);
        Check.due("class", PassiveChecks.class.getModifiers(), Modifier.PUBLIC | Modifier.FINAL);
    }

    private static void fields() {
        Check.in("fields");
        Set<String> constants = Set.of("BAD", "STATE", "FULL", "NONE");
        int found = 0;
        for (Field field : PassiveChecks.class.getDeclaredFields()) {
            int modifiers = field.getModifiers();
            if (constants.contains(field.getName())) {
                found++;
                Check.due(field + "", modifiers, Modifier.PUBLIC | Modifier.STATIC | Modifier.FINAL);
            } else {
                Check.due(field + " is private", modifiers & Modifier.PRIVATE, Modifier.PRIVATE);
            }
        }
        Check.due("constants", found, 4);
        Check.due("BAD", PassiveChecks.BAD, -1);
        Check.due("STATE", PassiveChecks.STATE, -2);
        Check.due("FULL", PassiveChecks.FULL, -3);
        Check.due("NONE", PassiveChecks.NONE, -9);
    }

    private static Set<String> namesOfFace() {
        Set<String> names = new TreeSet<>();
        for (String call : FACE) {
            names.add(call.substring(call.indexOf(' ') + 1, call.indexOf('(')));
        }
        return names;
    }

    private static void classesInside() {
        Check.in("classes inside");
        Class<?>[] inside = PassiveChecks.class.getDeclaredClasses();
        Check.due("at most eleven", inside.length <= 11 ? 1 : 0, 1);
        for (Class<?> one : inside) {
            Check.due(one + " is static", one.getModifiers() & Modifier.STATIC, Modifier.STATIC);
            Check.due(one + " is not seen", one.getModifiers() & (Modifier.PUBLIC | Modifier.PROTECTED), 0);
            for (Method method : one.getDeclaredMethods()) {
                Check.due(method + " has a name of its own", namesOfFace().contains(method.getName()) ? 1 : 0, 0);
            }
            int own = 0;
            for (Field field : one.getDeclaredFields()) {
                boolean isStatic = Modifier.isStatic(field.getModifiers());
                own += isStatic ? 0 : 1;
                Check.due(field + " is final if static", !isStatic || Modifier.isFinal(field.getModifiers()) ? 1 : 0, 1);
            }
            Check.due(one + " has at most twenty fields", own <= 20 ? 1 : 0, 1);
        }
    }

    private static void source(Path file) throws IOException {
        Check.in("source");
        String source = new String(Files.readAllBytes(file), StandardCharsets.ISO_8859_1);
        String code = source.replaceAll("(?s)/\\*.*?\\*/", "").replaceAll("//[^\n]*", "");
        for (String forbidden : FORBIDDEN) {
            Matcher matcher = Pattern.compile(forbidden).matcher(code);
            Check.due(forbidden, matcher.find() ? 1 : 0, 0);
        }
    }

    private static void call(PassiveChecks x, int n) {
        switch (n % 12) {
            case 0 -> x.wrong(n / 12 & 1, n % 5, 0);
            case 1 -> x.ends(n / 12 & 1, n & 255, 0, -1);
            case 2 -> x.keeps(n & 1, 1);
            case 3 -> x.linear();
            case 4 -> x.copied();
            case 5 -> x.sees(n % 18, 1);
            case 6 -> x.ask();
            case 7 -> x.keep(0);
            case 8 -> x.program();
            case 9 -> x.undo();
            case 10 -> x.back(0);
            default -> x.spurious(n % 5);
        }
    }

    /** The room is for all calls together, so a call makes no object. */
    private static void room() {
        Check.in("room");
        com.sun.management.ThreadMXBean bean = (com.sun.management.ThreadMXBean) ManagementFactory.getThreadMXBean();
        long before = bean.getCurrentThreadAllocatedBytes();
        PassiveChecks x = new PassiveChecks();
        long made = bean.getCurrentThreadAllocatedBytes();
        String text = "y(w1 !a(ib(t)()p1b0 w<b2 1(hb)))(ka hb t)";
        for (int i = 0; i < text.length(); i++) {
            x.type(text.charAt(i));
        }
        x.program();
        for (int n = text.length() + 1; n < 512; n++) {
            call(x, n);
        }
        long after = bean.getCurrentThreadAllocatedBytes();
        Check.due("object of " + (made - before) + " bytes", made - before <= OBJECT ? 1 : 0, 1);
        Check.due("run of " + (after - made) + " bytes", after - made <= RUN ? 1 : 0, 1);
    }

    public static void main(String[] args) throws IOException {
        face();
        fields();
        classesInside();
        source(Path.of(args.length > 0 ? args[0] : "src/main/java/PassiveChecks.java"));
        room();
        Check.finish();
    }
}
