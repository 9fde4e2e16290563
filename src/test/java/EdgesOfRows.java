/** Part 1, rows; promises 2 to 5 and 36. */
final class EdgesOfRows {
    /** A tannery is one less deep behind an hour: an item i (0 to 19) fits the one depth i + 1. */
    private static final String TANNERY = "d0,0;t20,0;r0;";

    private EdgesOfRows() {
    }

    static void test() {
        rowsAtFirst();
        rowLaysAnew();
        rowRefuses();
        setKeepsTheLowestBits();
        setRefuses();
        copyTakesThemAsTheyWere();
        copyRefuses();
        dropTakesAway();
        dropRefuses();
        statusOfTheLatest();
        statusPassesOver();
    }

    private static void item(Run run, int row, int i, int want) {
        int bits = run.call("fits", 0, row, i, 1, 1);
        Due.due("item " + i + " of row " + row, bits == 3 ? 0 : Integer.numberOfTrailingZeros(bits) - 1, want);
    }

    private static void rowsAtFirst() {
        Doc.says("Part 1", "ROWS 0 .. 7 are missing (at first), or have a LANE (0 bytes, 1 shorts, 2 ints)"
            + " and 0 to 40 ITEMS, 0 at first.");
        Run run = Run.town(TANNERY);
        for (int row = 0; row <= 7; row++) {
            run.then("count(0) = " + row + " drop(" + row + ") = NULL");
            run.then("row(" + row + ", " + row % 3 + ", 40) = 40 count(0) = " + (row + 1));
            item(run, row, 0, 0);
            item(run, row, 39, 0);
            run.then("set(" + row + ", 40, 0) = PLACE");
        }
        run.then("""
            drop(8) = BAD drop(-1) = BAD
            set(0, 39, 128) = -128 set(1, 39, 128) = 128 set(1, 39, 32768) = -32768
            set(2, 39, 32768) = 32768
            row(0, 0, 0) = 0 set(0, 0, 1) = PLACE count(0) = 8 drop(0) = 0 count(0) = 7""");
    }

    private static void rowLaysAnew() {
        Doc.says(2, "A ROW of a LANE with n ITEMS, in place of what is there: n.");
        Run run = Run.town(TANNERY).then("""
            row(0, 0, 3) = 3 set(0, 0, 5) set(0, 2, 6) row(0, 1, 2) = 2 set(0, 2, 1) = PLACE""");
        item(run, 0, 0, 0);
        run.then("set(0, 1, 300) = 300 row(0, 2, 3) = 3 set(0, 1, 70000) = 70000 count(0) = 1");
        item(run, 0, 0, 0);
        item(run, 0, 2, 0);
        run.then("set(0, 2, 9) drop(0) row(0, 2, 3) = 3");
        item(run, 0, 2, 0);
        run.then("row(0, 2, 0) = 0 row(7, 2, 40) = 40 row(7, 0, 1) = 1");
    }

    private static void rowRefuses() {
        Doc.says(2, "BAD: ROW, LANE, n above 40; SIZE.");
        int[] good = {3, 1, 5};
        Bounds.hold("row", good, 0, 0, 7);
        Bounds.hold("row", good, 1, 0, 2);
        Bounds.taken("row", good, 2, 0);
        Bounds.taken("row", good, 2, 40);
        Bounds.refused("row", good, 2, 41);
        Bounds.refused("row", good, 2, Integer.MAX_VALUE);
        Run.fresh().then("""
            row(3, 0, -1) = SIZE row(3, 0, LEAST) = SIZE row(3, 0, -40) = SIZE count(0) = 0
            row(3, 3, -1) = BAD row(8, 0, -1) = BAD row(3, -1, 41) = BAD""");
    }

    private static void setKeepsTheLowestBits() {
        Doc.says(3, "ITEM i becomes v, its lowest bits, as many as the LANE has: what it is then.");
        Run run = Run.town(TANNERY).then("""
            row(0, 0, 2) row(1, 1, 2) row(2, 2, 2)
            set(0, 0, 127) = 127 set(0, 0, 128) = -128 set(0, 0, 255) = -1 set(0, 0, 256) = 0
            set(0, 0, -128) = -128 set(0, 0, -129) = 127 set(0, 0, MOST) = -1 set(0, 0, LEAST) = 0
            set(1, 0, 32767) = 32767 set(1, 0, 32768) = -32768 set(1, 0, 65535) = -1
            set(1, 0, 65536) = 0 set(1, 0, -32769) = 32767 set(1, 0, MOST) = -1 set(1, 0, LEAST) = 0
            set(2, 0, MOST) = MOST set(2, 0, LEAST) = LEAST set(2, 1, 256) = 256
            set(0, 1, 263) = 7 set(1, 1, 65544) = 8 set(2, 1, 9) = 9""");
        item(run, 0, 1, 7);
        item(run, 1, 1, 8);
        item(run, 2, 1, 9);
        item(run, 0, 0, 0);
    }

    private static void setRefuses() {
        Doc.says(3, "BAD: ROW; NULL; PLACE.");
        Bounds.hold("set", new int[] {0, 0, 1}, 0, 0, 7);
        Run.fresh().then("""
            set(0, 0, 0) = NULL set(7, -1, 0) = NULL set(8, 0, 0) = BAD row(0, 0, 2)
            set(0, 0, 0) = 0 set(0, 1, 0) = 0 set(0, 2, 0) = PLACE set(0, -1, 0) = PLACE
            set(0, MOST, 0) = PLACE set(0, LEAST, 0) = PLACE
            row(1, 2, 0) set(1, 0, 0) = PLACE row(2, 1, 40) set(2, 39, 1) = 1 set(2, 40, 1) = PLACE""");
    }

    private static void copyTakesThemAsTheyWere() {
        Doc.says(4, "n ITEMS of a from i on come to b from j on, as they were ahead: n.");
        Run run = Run.town(TANNERY).then("row(0, 1, 4) set(0, 0, 1) set(0, 1, 2) set(0, 2, 3) set(0, 3, 4)");
        run.then("row(1, 1, 4) copy(0, 0, 1, 1, 3) = 3");
        items(run, 1, 0, 1, 2, 3);
        run.then("copy(0, 0, 0, 1, 3) = 3");
        items(run, 0, 1, 1, 2, 3);
        run.then("copy(0, 1, 0, 0, 3) = 3");
        items(run, 0, 1, 2, 3, 3);
        run.then("copy(0, 0, 0, 0, 4) = 4 copy(0, 0, 1, 0, 0) = 0 copy(0, 3, 1, 0, 1) = 1");
        items(run, 0, 1, 2, 3, 3);
        items(run, 1, 3, 1, 2, 3);
    }

    private static void items(Run run, int row, int... want) {
        for (int i = 0; i < want.length; i++) {
            item(run, row, i, want[i]);
        }
    }

    private static void copyRefuses() {
        Doc.says(4, "BAD: ROWS; NULL; STORE; PLACE (i, j, n below 0, or beyond an end).");
        int[] good = {0, 0, 0, 0, 1};
        Bounds.hold("copy", good, 0, 0, 7);
        Bounds.hold("copy", good, 2, 0, 7);
        Run.fresh().then("""
            row(0, 0, 4) row(1, 0, 6) row(2, 1, 4) row(4, 0, 0)
            copy(0, 0, 3, 0, 0) = NULL copy(3, 0, 0, 0, 0) = NULL copy(3, -1, 3, -1, -1) = NULL
            copy(0, 0, 2, 0, 0) = STORE copy(2, -1, 0, 9, 9) = STORE
            copy(0, -1, 1, 0, 1) = PLACE copy(0, 0, 1, -1, 1) = PLACE copy(0, 0, 1, 0, -1) = PLACE
            copy(0, -1, 1, 0, 0) = PLACE copy(0, 0, 1, -1, 0) = PLACE
            copy(0, 0, 1, 0, 4) = 4 copy(0, 0, 1, 0, 5) = PLACE copy(0, 1, 1, 0, 4) = PLACE
            copy(1, 0, 0, 0, 5) = PLACE copy(0, 0, 1, 2, 4) = 4 copy(0, 0, 1, 3, 4) = PLACE
            copy(0, 4, 1, 6, 0) = 0 copy(0, 5, 1, 6, 0) = PLACE copy(0, 4, 1, 7, 0) = PLACE
            copy(4, 0, 4, 0, 0) = 0 copy(4, 0, 0, 0, 1) = PLACE
            copy(0, 1, 1, 1, MOST) = PLACE copy(0, MOST, 1, 0, 1) = PLACE copy(0, 0, 1, MOST, 1) = PLACE
            copy(0, MOST, 1, MOST, MOST) = PLACE copy(0, LEAST, 1, LEAST, LEAST) = PLACE
            copy(0, LEAST, 1, 0, LEAST) = PLACE copy(0, -1, 1, 0, 5) = PLACE""");
    }

    private static void dropTakesAway() {
        Doc.says(5, "A ROW is missing from now on: how many ITEMS it had.");
        Run.town(TANNERY).then("""
            row(0, 0, 40) row(7, 2, 0) count(0) = 2 drop(0) = 40 drop(7) = 0 count(0) = 0
            set(0, 0, 1) = NULL copy(0, 0, 0, 0, 0) = NULL fits(0, 0, 0, 1, 0) = NULL drop(0) = NULL
            row(0, 0, 1) = 1 drop(0) = 1""");
    }

    private static void dropRefuses() {
        Doc.says(5, "BAD; NULL.");
        Bounds.hold("drop", new int[] {0}, 0, 0, 7);
        Run.fresh().then("drop(0) = NULL drop(7) = NULL status() = 1");
    }

    private static void statusOfTheLatest() {
        Doc.says(36, "Of the latest call with a ROW, or as(), that was not BAD, STATE, FULL:"
            + " the number of its FINDING;");
        Run.town(TANNERY).then("""
            row(0, 0, -1) status() = 4 row(0, 0, 2) status() = 0 row(1, 1, 2) status() = 0
            set(2, 0, 0) status() = 1 set(0, 2, 0) status() = 2 set(0, 1, 0) status() = 0
            copy(0, 0, 1, 0, 0) status() = 5 copy(0, 0, 0, 0, 2) status() = 0
            copy(0, 0, 2, 0, 0) status() = 1 copy(0, 0, 0, 0, 3) status() = 2
            drop(1) status() = 0 drop(1) status() = 1
            fits(0, 0, 0, 2, 0) status() = 0 fits(0, 0, 0, 3, 0) status() = 2
            fits(0, 1, 0, 2, 0) status() = 1 as(0, 4) status() = 0 as(0, 5) status() = 3""");
    }

    private static void statusPassesOver() {
        Doc.says(36, "0: it had none, or there was none.");
        Run.town(TANNERY).then("""
            status() = 0 drop(0) = NULL status() = 1 status() = 1
            drop(8) = BAD status() = 1 row(0, 0, 41) = BAD status() = 1 row(9, 0, -1) = BAD status() = 1
            set(-1, 0, 0) = BAD status() = 1 copy(0, 0, 8, 0, 0) = BAD status() = 1
            fits(0, 0, 0, 13, 0) = BAD status() = 1 as(0, 6) = BAD status() = 1 as(1, 0) = BAD status() = 1
            hours(1) undo() beat(0, 0) = STATE lull(0, 1) street(0, 0) ask(0, 0) count(0) town()
            image(0) restore(0) restore(1) = STATE wakes(0) tune(1, 1, 0) kind(0) trace(0) fault()
            status() = 1 row(0, 0, 1) = 1 status() = 0""");
        Run.fresh().then("drop(9) = BAD status() = 0 hours(1) = STATE status() = 0");
        itemsThatLookLikeRefusals();
    }

    /** An ITEM may be the very number of a refusal: the call that answers it was not refused. */
    private static void itemsThatLookLikeRefusals() {
        Run run = Run.fresh().then("row(0, 2, 1)");
        for (int number : new int[] {-1000000, -1000001, -1000002, -1000003, -1000011, -1000012, -1000015}) {
            run.then("drop(1) = NULL status() = 1 set(0, 0, " + number + ") = " + number + " status() = 0");
        }
    }
}
