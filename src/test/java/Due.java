/** Counts answers that are not the ones that are due, and tells them. */
final class Due {
    static final int NULL = -1000011, PLACE = -1000012, KIND = -1000013, SIZE = -1000014, STORE = -1000015;

    private static int asked;
    private static int wrong;

    private Due() {
    }

    static void due(String call, long got, long want) {
        asked++;
        if (got != want) {
            wrong++;
            System.out.println(call + " answered " + got + ", due is " + want);
        }
    }

    static int asked() {
        return asked;
    }

    /** An object whose tape has been read as this text. */
    static DrumPeace town(String text) {
        DrumPeace x = new DrumPeace();
        feed(x, text);
        if (x.town() < 0) {
            due("town() of " + text + ", fault", x.fault(), 0);
        }
        return x;
    }

    static void feed(DrumPeace x, String text) {
        for (int i = 0; i < text.length(); i++) {
            x.feed(text.charAt(i));
        }
    }

    static void end() {
        System.out.println(asked + " answers asked, " + wrong + " not as due");
        if (asked == 0 || wrong != 0) {
            System.exit(1);
        }
    }
}
