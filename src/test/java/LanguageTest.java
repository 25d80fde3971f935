import java.io.IOException;
import java.lang.management.ManagementFactory;
import java.lang.reflect.Constructor;
import java.lang.reflect.Field;
import java.lang.reflect.Method;
import java.lang.reflect.Modifier;
import java.nio.file.Files;
import java.nio.file.Path;
import java.util.ArrayList;
import java.util.List;
import java.util.Set;
import java.util.TreeSet;
import java.util.regex.Matcher;
import java.util.regex.Pattern;

/** The face, and those rules of LANGUAGE.md that can be looked at from outside. Run in the project's folder. */
public final class LanguageTest {
    private static final String[] FACE = {
        "int land(int, int, int, int)", "int ofCell(int, int)", "int plant(int, boolean)", "int ear(int)",
        "int bell(int, int, int)", "int ofBell(int, int)", "int recast(int, int)", "long loud(int, int, int, int)",
        "int whose(int, int)", "int reach(int, int)", "long tithes(int, int, int, int, int, int)",
        "int wins(int, int, int)", "int cheapest(int, int, int)", "int hang(int, int, int, int)",
        "int together(int, int, int)", "int pacts(int, int)", "int report(int, int, int, int)", "int back(int)",
        "int untrue()", "int leaves(int, int)", "int keep(int, int, int, int)", "int turns(int, int)",
        "int settles(int, int)", "int after(int, int, int)", "int sheet(int, int, int)", "int lose(int)",
        "int put(int, int, int)", "long cell(int, int, int)", "int copy(int, int, int, int, int)", "int tell(int)",
        "int bless(int)", "int as(int, int)", "int trace()", "int fault()", "int many(int)"};
    private static final Set<String> CONSTANTS =
            Set.of("UNKNOWN", "OUTSIDE", "STATE", "FULL", "SHARED", "DEAF", "NONE", "LOST");
    private static final Set<String> LIBRARY = Set.of("Math.max", "Math.min", "Math.abs", "Integer.bitCount",
            "System.arraycopy", "Arrays.fill", "Air.grainsOfOne");

    private static int wrong = 0;

    public static void main(String[] args) throws IOException {
        face();
        classesInside();
        source(Files.readString(Path.of("src/main/java/BellLand.java")));
        callsMakeNothing();
        System.out.println(wrong == 0 ? "the face and the language are kept" : wrong + " rules are broken");
        if (wrong != 0) {
            System.exit(1);
        }
    }

    private static void want(boolean kept, String rule) {
        if (!kept) {
            wrong++;
            System.out.println(rule);
        }
    }

    private static void face() {
        want(Modifier.toString(BellLand.class.getModifiers()).equals("public final"), "public final class");
        Set<String> told = new TreeSet<>(List.of(FACE));
        Set<String> found = new TreeSet<>();
        for (Method m : BellLand.class.getDeclaredMethods()) {
            StringBuilder line = new StringBuilder(m.getReturnType().getName()).append(' ').append(m.getName());
            List<String> types = new ArrayList<>();
            for (Class<?> type : m.getParameterTypes()) {
                types.add(type.getName());
            }
            line.append('(').append(String.join(", ", types)).append(')');
            if (Modifier.isPrivate(m.getModifiers())) {
                want(!isOfTheFace(m.getName()), "a private method bears a public one's name: " + m.getName());
            } else {
                want(Modifier.toString(m.getModifiers()).equals("public"), line + " is not simply public");
                found.add(line.toString());
            }
        }
        want(found.equals(told), "the methods are not the face's: " + found);
        for (Field f : BellLand.class.getDeclaredFields()) {
            boolean constant = CONSTANTS.contains(f.getName());
            want(constant || Modifier.isPrivate(f.getModifiers()), "field " + f.getName() + " is not private");
            want(!constant || Modifier.toString(f.getModifiers()).equals("public static final"), f.getName());
            want(!Modifier.isStatic(f.getModifiers()) || Modifier.isFinal(f.getModifiers()), f.getName());
        }
        Constructor<?>[] constructors = BellLand.class.getDeclaredConstructors();
        want(constructors.length == 1 && constructors[0].getParameterCount() == 0
                && Modifier.isPublic(constructors[0].getModifiers()), "one public constructor");
    }

    private static boolean isOfTheFace(String name) {
        for (String line : FACE) {
            if (line.contains(" " + name + "(")) {
                return true;
            }
        }
        return false;
    }

    private static void classesInside() {
        Class<?>[] inside = BellLand.class.getDeclaredClasses();
        want(inside.length <= 11, "at most twelve classes");
        for (Class<?> c : inside) {
            String name = c.getSimpleName();
            want(Modifier.isStatic(c.getModifiers()), name + " is not static");
            want((c.getModifiers() & (Modifier.PUBLIC | Modifier.PROTECTED)) == 0, name + " is seen outside");
            int fields = 0;
            for (Field f : c.getDeclaredFields()) {
                boolean isStatic = Modifier.isStatic(f.getModifiers());
                fields += isStatic ? 0 : 1;
                want(!isStatic || Modifier.isFinal(f.getModifiers()), name + "." + f.getName());
            }
            want(fields <= 20, name + " has too many fields");
            for (Method m : c.getDeclaredMethods()) {
                want(!isOfTheFace(m.getName()), name + "." + m.getName() + " bears a public method's name");
            }
        }
    }

    private static void source(String text) {
        String code = text.replaceAll("(?s)/\\*.*?\\*/", " ").replaceAll("//[^\n]*", "");
        for (String word : new String[] {"throw", "throws", "try", "catch", "synchronized", "assert", "double", "float",
            "interface", "lambda", "String", "import static", "package", "protected", "volatile", "native"}) {
            want(!Pattern.compile("\\b" + word + "\\b").matcher(code).find(), "the word " + word);
        }
        want(!code.contains("->") && !code.contains("::") && !code.contains("\""), "a lambda, reference or text");
        Matcher imports = Pattern.compile("import ([^;]*);").matcher(code);
        while (imports.find()) {
            want(imports.group(1).equals("java.util.Arrays"), "import " + imports.group(1));
        }
        Matcher calls = Pattern.compile("\\b([A-Z]\\w*\\.\\w+)\\(").matcher(code);
        while (calls.find()) {
            want(LIBRARY.contains(calls.group(1)), "call of " + calls.group(1));
        }
        String withoutLost = code.replace("public static final long LOST = Long.MIN_VALUE;", "");
        want(!Pattern.compile("\\b(Integer|Long|Math)\\.[A-Z]").matcher(withoutLost).find(), "a constant of the library");
        want(text.chars().allMatch(c -> c < 128), "a sign above 127");
        lengths(text);
    }

    /** A method begins with a line that ends with an open brace behind a parameter list, at one or two levels. */
    private static void lengths(String text) {
        String[] lines = text.split("\n");
        Pattern begin = Pattern.compile("^( {4}| {8})(?!for|if|while|switch|else|return)\\S.*\\) \\{$");
        for (int from = 0; from < lines.length; from++) {
            Matcher head = begin.matcher(lines[from]);
            if (!head.matches() || lines[from].contains(" class ")) {
                continue;
            }
            int to = from;
            while (to < lines.length && !lines[to].equals(head.group(1) + "}")) {
                to++;
            }
            want(to - from <= 60, "a long method: " + lines[from].trim());
            want(lines[from].chars().filter(c -> c == ',').count() <= 6, "many parameters: " + lines[from].trim());
        }
    }

    /** All calls of a run share one room that nothing leaves: so no call may make objects at all. */
    private static void callsMakeNothing() {
        com.sun.management.ThreadMXBean bean = (com.sun.management.ThreadMXBean) ManagementFactory.getThreadMXBean();
        BellLand x = Due.landed("g56;012345;543210;999999;012345;345678");
        for (int b = 0; b < 5; b++) {
            x.bell(b % 3, 5 * b, 20 + b);
        }
        long sum = 0;
        long before = 0;
        long after = 0;
        // The first time through, the machine may make things of its own.
        for (int time = 0; time < 3; time++) {
            before = bean.getCurrentThreadAllocatedBytes();
            sum += callAll(x);
            after = bean.getCurrentThreadAllocatedBytes();
        }
        want(after - before < 512, "the calls make things: " + (after - before) + " bytes, sum " + sum);
    }

    private static long callAll(BellLand x) {
        long sum = x.land(0, 0, 0, 2) + x.ofCell(3, 1) + x.plant(4, true) + x.plant(4, false) + x.ear(9) + x.ear(10);
        sum += x.bell(0, 99, 1) + x.ofBell(0, 0) + x.recast(0, 20) + x.loud(0, 29, 13, 0) + x.whose(7, 13);
        sum += x.reach(0, 3) + x.wins(0, 7, 13) + x.cheapest(9, 0, 0) + x.hang(0, 9, 0, 0) + x.together(0, 1, 9);
        sum += x.pacts(9, -1) + x.report(0, 9, 0, 1) + x.untrue() + x.leaves(0, 0) + x.back(1) + x.keep(0, 29, 0, 0);
        sum += x.turns(0, -1) + x.settles(0, 0) + x.after(0, 0, 200) + x.sheet(1, 2, 60) + x.put(1, 3, 39);
        sum += x.tithes(0, 1, 2, 0, 60, 0) + x.cell(1, 3, 2) + x.copy(1, 0, 1, 3, 40) + x.lose(1) + x.tell(2);
        return sum + x.bless(1) + x.as(2, 1) + x.trace() + x.fault() + x.many(3);
    }
}
