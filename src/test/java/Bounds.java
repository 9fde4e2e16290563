/** The range of one argument of a call, of which both ends are taken and what lies beyond is not. */
final class Bounds {
    private Bounds() {
    }

    /** Of a call that is good in a scene: its argument may be least to most, and else it is BAD. */
    static void hold(String name, int[] good, int argument, int least, int most) {
        taken(name, good, argument, least);
        taken(name, good, argument, most);
        refused(name, good, argument, least - 1);
        refused(name, good, argument, Integer.MIN_VALUE);
        refused(name, good, argument, most + 1);
        refused(name, good, argument, Integer.MAX_VALUE);
    }

    static void taken(String name, int[] good, int argument, int value) {
        int got = Scene.made().call(name, with(good, argument, value));
        Due.due(text(name, good, argument, value) + " is BAD", got == DrumPeace.BAD ? 1 : 0, 0);
    }

    static void refused(String name, int[] good, int argument, int value) {
        Run run = Scene.made();
        String call = text(name, good, argument, value);
        Due.due(call, run.call(name, with(good, argument, value)), DrumPeace.BAD);
        Scene.unchanged(call, run, Scene.STATUS);
    }

    private static int[] with(int[] good, int argument, int value) {
        int[] args = good.clone();
        args[argument] = value;
        return args;
    }

    private static String text(String name, int[] good, int argument, int value) {
        StringBuilder text = new StringBuilder(name).append('(');
        for (int i = 0; i < good.length; i++) {
            text.append(i == 0 ? "" : ", ").append(i == argument ? value : good[i]);
        }
        return text.append(')').toString();
    }
}
