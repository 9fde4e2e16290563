import java.lang.reflect.InvocationTargetException;
import java.lang.reflect.Method;
import java.util.HashMap;
import java.util.Map;
import java.util.regex.Matcher;
import java.util.regex.Pattern;

/**
 * A run of calls on one object, written as a text: calls that stand one behind the other, each with
 * or without the answer that is due ("lull(0, 1) = 6"); a text in quotes is fed byte by byte.
 */
final class Run {
    private static final int MOST_CALLS = 512;
    private static final Pattern STEP =
        Pattern.compile("\"([^\"]*)\"|(\\w+)\\(([^)]*)\\)(?:\\s*=\\s*([-\\w]+))?|(\\S+)");
    private static final Map<String, Method> METHODS = new HashMap<>();
    private static final Map<String, Integer> NAMES = Map.ofEntries(
        Map.entry("NONE", -1000000), Map.entry("BAD", -1000001), Map.entry("STATE", -1000002),
        Map.entry("FULL", -1000003), Map.entry("NULL", -1000011), Map.entry("PLACE", -1000012),
        Map.entry("KIND", -1000013), Map.entry("SIZE", -1000014), Map.entry("STORE", -1000015),
        Map.entry("LEAST", Integer.MIN_VALUE), Map.entry("MOST", Integer.MAX_VALUE));

    static {
        for (Method m : DrumPeace.class.getMethods()) {
            if (m.getDeclaringClass() == DrumPeace.class) {
                METHODS.put(m.getName(), m);
            }
        }
    }

    final DrumPeace object = new DrumPeace();
    private String told = "";
    private int calls;

    /** A new object. */
    static Run fresh() {
        return new Run();
    }

    /** A new object whose tape was read as this text. */
    static Run town(String text) {
        Run run = new Run();
        run.told = text + " ";
        run.feed(text);
        int streets = run.call("town");
        Due.due("town of " + text, streets > 0 ? 1 : streets, 1);
        return run;
    }

    Run then(String script) {
        Matcher m = STEP.matcher(script);
        while (m.find()) {
            if (m.group(5) != null) {
                throw new IllegalArgumentException("no call: " + m.group(5));
            }
            if (m.group(1) != null) {
                feed(m.group(1));
                continue;
            }
            int got = call(m.group(2), numbers(m.group(3)));
            if (m.group(4) != null) {
                Due.due(told + ".. " + m.group(2) + "(" + m.group(3) + ")", got, number(m.group(4)));
            }
        }
        return this;
    }

    Run feed(String text) {
        for (int i = 0; i < text.length(); i++) {
            call("feed", text.charAt(i));
        }
        return this;
    }

    int call(String name, int... args) {
        calls++;
        if (calls > MOST_CALLS) {
            throw new IllegalStateException("more calls than an object is used for");
        }
        Object[] boxed = new Object[args.length];
        for (int i = 0; i < args.length; i++) {
            boxed[i] = args[i];
        }
        try {
            return (Integer) METHODS.get(name).invoke(object, boxed);
        } catch (InvocationTargetException | IllegalAccessException e) {
            throw new IllegalStateException(name + " threw", e);
        }
    }

    int callsLeft() {
        return MOST_CALLS - calls;
    }

    private static int[] numbers(String args) {
        if (args.isBlank()) {
            return new int[0];
        }
        String[] words = args.split(",");
        int[] all = new int[words.length];
        for (int i = 0; i < words.length; i++) {
            all[i] = number(words[i].trim());
        }
        return all;
    }

    private static int number(String word) {
        return NAMES.containsKey(word) ? NAMES.get(word) : Integer.parseInt(word);
    }
}
