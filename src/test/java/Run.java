import java.lang.reflect.InvocationTargetException;
import java.lang.reflect.Method;
import java.util.ArrayList;
import java.util.Arrays;
import java.util.HashMap;
import java.util.List;
import java.util.Map;
import java.util.Set;

/**
 * A run of calls on a new object, told in lines, for one sentence of the document:
 *
 * <pre>
 *   ear 99 = 10             the call and the answer that is due
 *   bell 0 9 1 ! UNKNOWN    the same, and it changes nothing: an object on which it is left out answers all else alike
 *   cell 0 9 2 ! LOST 3     and the FAULT it came to; an int tells it itself (-13)
 *   text g22;00;00 = 4      written into SHEET 0 as bytes, then land of it
 *   row 1 2 : 0 19 39       SHEET 1 gets these numbers, as SORT 2
 *   loud 0 3 19 = 19/10     both numbers of a share; tithes likewise
 * </pre>
 *
 * Behind each line fault() is looked at: it is that of the call, if its promise names FAULTS, and stays else.
 */
final class Run {
    private static final long LOST = Long.MIN_VALUE;
    private static final Set<String> NAMING_FAULTS = Set.of("land", "tithes", "sheet", "put", "cell", "copy", "as");
    private static final Map<String, Method> FACE = face();
    /** How many calls an object takes: what it answers to more of them is free. */
    private static final int MOST_CALLS = 512;

    private record Call(String line, String name, int[] arguments, long due, boolean isRefused, int fault) {}

    private final String sentence;
    private final List<Call> calls = new ArrayList<>();

    private Run(String itsSentence) {
        sentence = itsSentence;
    }

    static void run(String sentence, String... lines) {
        run(sentence, Arrays.asList(lines));
    }

    static void run(String sentence, List<String> lines) {
        Run run = new Run(sentence);
        for (String line : lines) {
            run.read(line);
        }
        run.go();
    }

    /** Lines behind others: a run on what the first ones made. */
    static String[] on(String[] first, String... then) {
        String[] both = Arrays.copyOf(first, first.length + then.length);
        System.arraycopy(then, 0, both, first.length, then.length);
        return both;
    }

    private static Map<String, Method> face() {
        Map<String, Method> all = new HashMap<>();
        for (Method m : BellLand.class.getDeclaredMethods()) {
            all.put(m.getName(), m);
        }
        return all;
    }

    // ---- lines

    private void read(String line) {
        String[] words = line.split(" +");
        if (words[0].equals("row")) {
            readRow(line, words);
        } else if (words[0].equals("text")) {
            readText(line, words);
        } else if (words[words.length - 1].contains("/")) {
            String[] share = words[words.length - 1].split("/");
            String call = line.substring(0, line.lastIndexOf(" = "));
            read(call + " 0 = " + share[0]);
            read(call + " 1 = " + share[1]);
        } else {
            readCall(line, words);
        }
    }

    private void readRow(String line, String[] words) {
        int n = words.length - 4;
        add(line, "sheet", 1, number(words[1]), number(words[2]), n);
        for (int i = 0; i < n; i++) {
            add(line, "put", 1, number(words[1]), i, number(words[4 + i]));
        }
    }

    private void readText(String line, String[] words) {
        String text = words[1];
        add(line, "sheet", 1, 0, 0, text.length());
        for (int i = 0; i < text.length(); i++) {
            add(line, "put", 1, 0, i, text.charAt(i));
        }
        readCall(line, ("land 0 0 0 " + text.length() + " " + words[2] + " " + words[3]).split(" "));
    }

    private void readCall(String line, String[] words) {
        int sign = 1;
        while (!words[sign].equals("=") && !words[sign].equals("!")) {
            sign++;
        }
        int[] arguments = new int[sign - 1];
        for (int k = 0; k < arguments.length; k++) {
            arguments[k] = number(words[1 + k]);
        }
        long due = due(words[sign + 1]);
        int fault = 0;
        if (words.length > sign + 2) {
            fault = number(words[sign + 2]);
        } else if (due <= -11 && due >= -14 && FACE.get(words[0]).getReturnType() == int.class) {
            fault = (int) (-10 - due);
        }
        calls.add(new Call(line, words[0], arguments, due, words[sign].equals("!"), fault));
    }

    private void add(String line, String name, long due, int... arguments) {
        calls.add(new Call(line, name, arguments, due, false, 0));
    }

    private static int number(String word) {
        switch (word) {
            case "MAX":
                return Integer.MAX_VALUE;
            case "MIN":
                return Integer.MIN_VALUE;
            case "true":
                return 1;
            case "false":
                return 0;
            default:
                return Integer.parseInt(word);
        }
    }

    private static long due(String word) {
        String[] names = {"UNKNOWN", "OUTSIDE", "STATE", "FULL", "SHARED", "DEAF", "NULL", "CAST", "INDEX", "SIZE"};
        long[] numbers = {-1, -2, -3, -4, -5, -6, -11, -12, -13, -14};
        for (int k = 0; k < names.length; k++) {
            if (names[k].equals(word)) {
                return numbers[k];
            }
        }
        return word.equals("LOST") ? LOST : word.equals("NONE") ? -9 : number(word);
    }

    // ---- calls

    private void go() {
        // With each call goes one of fault().
        isWithinLimit(2 * calls.size());
        BellLand x = new BellLand();
        int fault = 0;
        for (int k = 0; k < calls.size(); k++) {
            Call call = calls.get(k);
            String where = sentence + ": " + call.line + " (" + call.name + " " + Arrays.toString(call.arguments) + ")";
            Due.due(where, answer(x, call.name, call.arguments), call.due);
            fault = NAMING_FAULTS.contains(call.name) ? call.fault : fault;
            Due.due(where + ": fault", x.fault(), fault);
            if (call.isRefused) {
                Due.due(where + ": what it changed", changed(k) ? 1 : 0, 0);
            }
        }
    }

    private static long answer(BellLand x, String name, int[] arguments) {
        Method method = FACE.get(name);
        Object[] all = new Object[arguments.length];
        for (int k = 0; k < all.length; k++) {
            boolean isTruth = method.getParameterTypes()[k] == boolean.class;
            all[k] = isTruth ? (Object) (arguments[k] != 0) : (Object) arguments[k];
        }
        try {
            return ((Number) method.invoke(x, all)).longValue();
        } catch (InvocationTargetException e) {
            throw new IllegalStateException(name + " threw " + e.getCause());
        } catch (IllegalAccessException e) {
            throw new IllegalStateException(name + " is not public");
        }
    }

    /** Whether an object on which the k-th call has been made differs from one on which it hasn't. */
    private boolean changed(int k) {
        BellLand without = new BellLand();
        BellLand with = new BellLand();
        for (int j = 0; j <= k; j++) {
            Call call = calls.get(j);
            if (j < k) {
                answer(without, call.name, call.arguments);
            }
            answer(with, call.name, call.arguments);
        }
        List<Long> due = all(without);
        isWithinLimit(k + 1 + due.size());
        return !due.equals(all(with));
    }

    private void isWithinLimit(int howMany) {
        Due.due(sentence + ": calls beyond an object's limit", Math.max(0, howMany - MOST_CALLS), 0);
    }

    /** Everything that can be asked for, but for the FAULT. */
    private static List<Long> all(BellLand x) {
        List<Long> all = new ArrayList<>();
        all.add((long) x.trace());
        all.add((long) x.untrue());
        for (int what = 0; what <= 6; what++) {
            all.add((long) x.many(what));
        }
        for (int c = 0; c < x.many(0); c++) {
            for (int what = 0; what <= 3; what++) {
                all.add((long) x.ofCell(c, what));
            }
            all.add((long) x.whose(c, 13));
        }
        for (int b = 0; b < x.many(3); b++) {
            for (int what = 0; what <= 2; what++) {
                all.add((long) x.ofBell(b, what));
                all.add((long) x.leaves(b, what));
            }
        }
        for (int k = 0; k <= 3; k++) {
            for (int sort = 0; sort <= 2; sort++) {
                addSheet(all, x, k, sort);
            }
        }
        return all;
    }

    private static void addSheet(List<Long> all, BellLand x, int k, int sort) {
        for (int i = 0; i <= 60; i++) {
            all.add(x.cell(k, i, sort));
            if (x.fault() != 0) {
                all.add((long) x.fault());
                return;
            }
        }
    }
}
