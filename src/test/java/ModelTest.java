import java.lang.reflect.Method;
import java.lang.reflect.Modifier;
import java.util.ArrayList;
import java.util.Arrays;
import java.util.Comparator;
import java.util.List;
import java.util.Random;

/** Random runs of 512 calls, ordinary and wild, on DrumPeace and on Model: every answer is the same. */
public final class ModelTest {
    private static final int RUNS = 400, FULL_TOWNS = 150, CALLS = 512;
    private static final int[] WILD = {Integer.MIN_VALUE, -1000001, -2, -1, 0, 1, 7, 8, 20, 21, 40, 41, 60, 61,
        255, 256, 999, 1000, 999999, 1000000, Integer.MAX_VALUE - 1, Integer.MAX_VALUE};
    /** What the arguments of a call range over when they are not wild; a little wider than allowed. */
    private static final String[] RANGES = {
        "row 0-8 0-2 0-14", "set 0-3 0-12 -3-22", "copy 0-3 0-6 0-3 0-6 0-7", "drop 0-7", "feed 0-255",
        "town", "fault", "hours 0-25", "beat 0-8 0-8", "reach -1-4", "lull 0-8 0-21", "bring 0-8 0-61",
        "undo", "street 0-8 0-5", "round 0-8", "ahead 0-8 0-61 0-2", "later 0-61 0-2", "wakes 0-8", "alarm",
        "tune 0-5 0-13 -2-4", "shift 0-31 0-2", "cover 0-1", "spread 0-8 0-31", "skins 0-8 0-1000",
        "fits 0-7 0-3 0-4 1-4 0-3", "drops 0-8 0-9 0-11 0-1", "drawn 0-61 0-1000000 0-1", "image 0-1",
        "restore 0-1", "kind 0-8", "as 0-8 0-5", "ask 0-8 0-1", "trace 0-16", "count 0-9", "status"};

    private final Random random;
    private final DrumPeace real = new DrumPeace();
    private final Model model = new Model();
    private final List<Method> methods = new ArrayList<>();
    private int left = CALLS;

    private ModelTest(int seed) {
        random = new Random(seed);
        for (Method m : DrumPeace.class.getDeclaredMethods()) {
            if (Modifier.isPublic(m.getModifiers())) {
                methods.add(m);
            }
        }
        methods.sort(Comparator.comparing(Method::getName));
    }

    public static void main(String[] args) throws Exception {
        for (int seed = 0; seed < RUNS; seed++) {
            new ModelTest(seed).run(seed % 4 == 0);
        }
        for (int seed = 0; seed < FULL_TOWNS; seed++) {
            new ModelTest(seed).searchFullTown();
        }
        Due.end();
    }

    /** Hasty runs tell no story: they pass mostly hours, to come to the last of them. */
    private void run(boolean hasty) throws Exception {
        int early = random.nextInt(4);
        while (left > 0) {
            if (random.nextInt(120) == 0 || CALLS - left == early) {
                feedTown();
            } else if (random.nextInt(25) == 0) {
                tellRow();
            } else if (hasty && random.nextInt(10) != 0) {
                compare(method("hours"), 24);
            } else {
                Method m = methods.get(random.nextInt(methods.size()));
                compare(m, arguments(m));
            }
        }
    }

    /** Random runs seldom search a town of eight streets while there is much to rob; these always do. */
    private void searchFullTown() throws Exception {
        StringBuilder text = new StringBuilder("d");
        text.append(random.nextInt(4)).append(',').append(1 + random.nextInt(9)).append(';');
        for (int s = 0; s < 8; s++) {
            text.append("angtp".charAt(random.nextInt(5))).append(random.nextInt(21)).append(',')
                .append(random.nextInt(61)).append(';');
        }
        for (int b = random.nextInt(8); b >= 0; b--) {
            text.append('r').append(random.nextInt(8)).append(';');
        }
        feedText(text);
        if (random.nextBoolean()) {
            compare(method("hours"), 1 + random.nextInt(5));
        }
        int k = 2 + random.nextInt(3);
        int n = 1 + random.nextInt(12);
        for (int j = -1; j < k; j++) {
            compare(method("tune"), k, n, j);
        }
        for (int what = 0; what < 2; what++) {
            compare(method("shift"), n, what);
            compare(method("shift"), 30, what);
            compare(method("cover"), what);
        }
        for (int s = 0; s < 8; s++) {
            compare(method("spread"), s, n);
            compare(method("skins"), s, random.nextInt(1000));
        }
    }

    private Method method(String name) {
        for (Method m : methods) {
            if (m.getName().equals(name)) {
                return m;
            }
        }
        throw new IllegalStateException(name);
    }

    private void compare(Method m, int... args) throws Exception {
        if (left == 0) {
            return;
        }
        left--;
        Object[] boxed = new Object[args.length];
        for (int i = 0; i < args.length; i++) {
            boxed[i] = args[i];
        }
        int got = (Integer) m.invoke(real, boxed);
        Due.due(m.getName() + Arrays.toString(args), got, model.call(m.getName(), args));
    }

    private int[] arguments(Method m) {
        int[] args = new int[m.getParameterCount()];
        String[] ranges = null;
        for (String r : RANGES) {
            if (r.split(" ")[0].equals(m.getName())) {
                ranges = r.split(" ");
            }
        }
        int wild = random.nextInt(12) == 0 && args.length > 0 ? random.nextInt(args.length) : -1;
        for (int i = 0; i < args.length; i++) {
            String range = ranges[i + 1];
            int cut = range.indexOf('-', 1);
            int least = Integer.parseInt(range.substring(0, cut));
            int most = Integer.parseInt(range.substring(cut + 1));
            args[i] = i == wild ? WILD[random.nextInt(WILD.length)] : least + random.nextInt(most - least + 1);
        }
        return args;
    }

    private void feedTown() throws Exception {
        StringBuilder text = new StringBuilder();
        text.append('d').append(random.nextInt(4)).append(',').append(random.nextInt(10)).append(';');
        int streets = 1 + random.nextInt(8);
        for (int s = 0; s < streets; s++) {
            int deep = random.nextInt(3) == 0 ? random.nextInt(3) : random.nextInt(21);
            text.append("angtp".charAt(random.nextInt(5))).append(deep).append(',')
                .append(random.nextInt(4) == 0 ? 0 : random.nextInt(61)).append(';');
        }
        for (int b = random.nextInt(8); b >= 0; b--) {
            text.append('r').append(random.nextInt(streets)).append(';');
        }
        if (random.nextInt(3) == 0) {
            spoil(text);
        }
        if (random.nextInt(3) != 0) {
            compare(method("town"));
        }
        feedText(text);
        compare(method("fault"));
    }

    private void feedText(CharSequence text) throws Exception {
        for (int i = 0; i < text.length(); i++) {
            compare(method("feed"), text.charAt(i));
        }
        compare(method("town"));
    }

    private void spoil(StringBuilder text) {
        String signs = "adgnptrx019,; \u00ff";
        int at = random.nextInt(text.length());
        char sign = signs.charAt(random.nextInt(signs.length()));
        switch (random.nextInt(4)) {
            case 0:
                text.deleteCharAt(at);
                break;
            case 1:
                text.insert(at, sign);
                break;
            case 2:
                text.setLength(at);
                break;
            default:
                text.setCharAt(at, sign);
        }
    }

    /** A row that tells how a street will sleep, or nearly so, and what may be guessed from it. */
    private void tellRow() throws Exception {
        int street = random.nextInt(8);
        int n = 1 + random.nextInt(12);
        compare(method("row"), 0, random.nextInt(3), n);
        for (int h = 0; h < n; h++) {
            int deep = model.call("ahead", new int[] {street, h + 1, 0});
            compare(method("set"), 0, h, random.nextInt(20) == 0 ? deep + 1 : deep);
        }
        for (int what = 0; what < 4; what++) {
            compare(method("fits"), street, 0, 0, n, what);
        }
    }
}
