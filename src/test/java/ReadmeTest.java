import java.io.IOException;
import java.lang.reflect.InvocationTargetException;
import java.lang.reflect.Method;
import java.nio.file.Files;
import java.nio.file.Path;
import java.util.regex.Matcher;
import java.util.regex.Pattern;

/** Makes the calls that README.md shows, in their order, and looks at each answer. Run in the project's folder. */
public final class ReadmeTest {
    private static final Pattern TEXT = Pattern.compile("String text = \"([^\"]*)\";.*");
    private static final Pattern CALL = Pattern.compile("x\\.(\\w+)\\((.*)\\); +// ([-\\w]+).*");

    private final BellLand x = new BellLand();
    private String text = "";

    public static void main(String[] args) throws IOException, ReflectiveOperationException {
        new ReadmeTest().go(Files.readString(Path.of("README.md")));
        Due.end();
    }

    private void go(String readme) throws ReflectiveOperationException {
        int calls = 0;
        for (String line : readme.split("\n")) {
            Matcher told = TEXT.matcher(line);
            if (told.matches()) {
                text = told.group(1);
            }
            Matcher call = CALL.matcher(line.trim());
            if (call.matches()) {
                calls++;
                make(call.group(1), call.group(2), due(call.group(3)));
            }
        }
        Due.due("calls that README.md shows, 30 or more", calls >= 30 ? 1 : 0, 1);
    }

    private static long due(String word) throws ReflectiveOperationException {
        if (word.matches("[A-Z]+")) {
            return ((Number) BellLand.class.getField(word).get(null)).longValue();
        }
        return Long.parseLong(word);
    }

    /** A line that names i stands in the loop over the text. */
    private void make(String name, String arguments, long due) throws ReflectiveOperationException {
        if (!arguments.contains("text.charAt(i)")) {
            makeOne(name, arguments, due);
            return;
        }
        for (int i = 0; i < text.length(); i++) {
            String code = String.valueOf((int) text.charAt(i));
            makeOne(name, arguments.replace("text.charAt(i)", code).replaceAll("\\bi\\b", String.valueOf(i)), due);
        }
    }

    private void makeOne(String name, String arguments, long due) throws ReflectiveOperationException {
        String told = arguments.replace("text.length()", String.valueOf(text.length()));
        String[] words = told.isEmpty() ? new String[0] : told.split(", *");
        Method method = methodOf(name);
        Object[] values = new Object[words.length];
        for (int k = 0; k < words.length; k++) {
            boolean isTruth = method.getParameterTypes()[k] == boolean.class;
            values[k] = isTruth ? (Object) Boolean.valueOf(words[k]) : (Object) Integer.valueOf(words[k]);
        }
        try {
            Due.due(name + "(" + told + ")", ((Number) method.invoke(x, values)).longValue(), due);
        } catch (InvocationTargetException e) {
            throw new IllegalStateException(name + "(" + told + ") threw", e.getCause());
        }
    }

    private static Method methodOf(String name) {
        for (Method m : BellLand.class.getDeclaredMethods()) {
            if (m.getName().equals(name)) {
                return m;
            }
        }
        throw new IllegalStateException("README.md shows a call that is not of the face: " + name);
    }
}
