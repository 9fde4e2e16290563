/** The terms that all promises use, a new object, and the last call that is promised. */
final class EdgesOfTerms {
    private static final String EIGHT_TANNERIES = "d0,0;t1,0;t1,0;t1,0;t1,0;t1,0;t1,0;t1,0;t1,0;r0;";

    private EdgesOfTerms() {
    }

    static void test() {
        theLastCall();
        aNewObject();
        numbersGoFromZeroOn();
        whatIsDividedIsCut();
        setsAreBits();
        theFirstRefusalThatFits();
        badNumbersAndThings();
        findingsComeLast();
        theFirstFindingInTime();
        numbersOfFindings();
        nothingChanges();
    }

    private static void theLastCall() {
        Doc.says("What it is", "An object is used for at most 512 calls after it has been made;"
            + " what later calls answer is free.");
        Run run = Run.town("d0,0;a1,0;r0;");
        for (int i = 0; i < 416; i++) {
            run.call("hours", 24);
        }
        while (run.callsLeft() > 4) {
            run.call("lull", 0, 1);
        }
        run.then("hours(15) = 0 count(3) = 9999 count(8) = 24 undo() = 23");
        Due.due("calls left", run.callsLeft(), 0);
    }

    private static void aNewObject() {
        Doc.says(1, "No TOWN.");
        Run.fresh().then("""
            hours(1) = STATE reach(0) = STATE undo() = STATE later(0, 0) = STATE alarm() = STATE
            tune(1, 1, -1) = STATE shift(1, 0) = STATE cover(0) = STATE drawn(0, 1, 0) = STATE
            image(0) = STATE image(1) = STATE restore(0) = STATE restore(1) = STATE
            beat(0, 0) = BAD round(0) = BAD lull(0, 1) = BAD bring(0, 1) = BAD street(0, 0) = BAD
            ahead(0, 0, 0) = BAD wakes(0) = BAD spread(0, 1) = BAD skins(0, 0) = BAD
            fits(0, 0, 0, 1, 0) = BAD drops(0, 0, 0, 0) = BAD kind(0) = BAD as(0, 0) = BAD
            ask(0, 0) = BAD trace(0) = NONE fault() = 0 status() = 0
            count(0) = 0 count(1) = 0 count(2) = 0 count(3) = 0 count(4) = 0
            count(5) = 0 count(6) = 0 count(7) = 0 count(8) = 0 count(9) = 0""");
    }

    private static void numbersGoFromZeroOn() {
        Doc.says("Terms", "Numbers go from 0 on.");
        Run.town("d0,1;p7,3;r0;").then("""
            street(0, 0) = 7 street(1, 0) = BAD round(0) = 0 round(1) = BAD count(3) = 0
            row(0, 0, 1) = 1 set(0, 0, 5) = 5 set(0, 1, 5) = PLACE tune(1, 1, 0) = 0
            image(0) = 1 ask(0, 1) = 194 trace(0) = 23""");
    }

    private static void whatIsDividedIsCut() {
        Doc.says("Terms", "All that is divided is cut towards 0, but fractions, told as two numbers"
            + " in lowest terms (0 is 0 by 1).");
        // 2 * 2 / 3 and 2 * 1 / 3 are 1 and 0; rounded they would be 1 and 1, and nothing over.
        Run.town("d0,0;t1,2;t1,1;r0;").then("skins(0, 2) = 2 skins(1, 2) = 0");
        Run.town("d0,0;a1,0;r0;").then("""
            drops(0, 1, 5, 0) = 1 drops(0, 1, 5, 1) = 2
            drops(0, 1, 4, 0) = 2 drops(0, 1, 4, 1) = 5
            drops(0, 1, 3, 0) = 3 drops(0, 1, 3, 1) = 10
            drops(0, 1, 10, 0) = 1 drops(0, 1, 10, 1) = 1
            drops(0, 1, 0, 0) = 0 drops(0, 1, 0, 1) = 1
            drops(0, 0, 5, 0) = 0 drops(0, 0, 5, 1) = 1""");
    }

    private static void setsAreBits() {
        Doc.says("Terms", "Sets are bits.");
        Run.town(EIGHT_TANNERIES).then("""
            count(7) = 0 cover(1) = 255 later(1, 0) = 255 hours(1) = 255 count(7) = 255
            lull(0, 1) count(7) = 254 lull(7, 1) count(7) = 126""");
    }

    private static void theFirstRefusalThatFits() {
        Doc.says("Terms", "Refusals are answers, the first of these that fits, but as told:");
        Run.fresh().then("""
            image(2) = BAD restore(2) = BAD image(-1) = BAD restore(-1) = BAD
            hours(0) = STATE reach(4) = STATE later(61, 0) = STATE tune(0, 0, -2) = STATE
            shift(0, 2) = STATE cover(2) = STATE drawn(61, 0, 2) = STATE
            row(8, 0, -1) = BAD row(0, 3, -1) = BAD set(8, -1, 0) = BAD
            copy(8, -1, 0, -1, -1) = BAD copy(0, -1, 8, -1, -1) = BAD drop(8) = BAD""");
        Run.town("d0,0;a1,0;r0;").then("""
            fits(0, 0, -1, 0, 0) = BAD fits(0, 0, -1, 1, 4) = BAD fits(1, 0, -1, 1, 0) = BAD
            as(1, 5) = BAD as(0, 6) = BAD""");
    }

    private static void badNumbersAndThings() {
        Doc.says("Terms", "BAD (a number is not as told; there is no such thing),");
        Run.town("d0,0;a1,0;r0;").then("""
            lull(0, 0) = BAD lull(1, 1) = BAD hours(25) = BAD round(1) = BAD beat(1, 0) = BAD
            beat(0, 1) = BAD row(8, 0, 0) = BAD image(2) = BAD count(10) = BAD""");
    }

    private static void findingsComeLast() {
        Doc.says("Terms", "STATE (as told), FULL (as told), then FINDINGS,");
        Run.town("d0,0;a1,0;r0;").then("beat(0, 0) = STATE undo() = STATE restore(0) = STATE");
        Run full = Run.fresh();
        for (int i = 0; i < 110; i++) {
            full.call("feed", 'd');
        }
        full.then("feed(100) = FULL feed(256) = BAD feed(-1) = BAD count(9) = 110");
        Run late = Run.town("d0,0;a1,0;r0;");
        for (int i = 0; i < 416; i++) {
            late.call("hours", 24);
        }
        late.then("hours(16) = FULL hours(25) = BAD hours(0) = BAD hours(15) hours(1) = FULL");
    }

    private static void theFirstFindingInTime() {
        Doc.says("Terms", "of several the first in time:");
        Run.town("d0,0;a1,0;r0;").then("""
            row(0, 0, 2) row(1, 1, 2)
            set(2, 9, 0) = NULL copy(0, 9, 2, 9, 9) = NULL copy(2, 9, 1, 9, 9) = NULL
            copy(0, 9, 1, 9, 9) = STORE copy(0, -1, 1, -1, -1) = STORE fits(0, 2, 9, 1, 0) = NULL""");
    }

    private static void numbersOfFindings() {
        Doc.says("Terms", "-1000010 less 1 NULL (a ROW that is missing), 2 PLACE (no such place of a ROW),"
            + " 3 KIND (a STREET that is not that), 4 SIZE (fewer than none), 5 STORE (ROWS of two LANES).");
        Run.town("d0,0;a1,0;r0;").then("""
            drop(0) = -1000011 status() = 1 row(0, 0, 1) set(0, 1, 0) = -1000012 status() = 2
            as(0, 2) = -1000013 status() = 3 row(1, 0, -1) = -1000014 status() = 4
            row(1, 1, 1) copy(0, 0, 1, 0, 1) = -1000015 status() = 5""");
    }

    /** What is BAD is seen to change nothing by Bounds; here what is refused in another way, or found. */
    private static void nothingChanges() {
        Doc.says("Terms", "What is refused, or found, changes nothing but status().");
        String[] refused = {"beat(0, 0) = STATE", "restore(1) = STATE", "trace(99) = NONE"};
        for (String call : refused) {
            Scene.unchanged(call, Scene.made().then(call), Scene.STATUS);
        }
        String[] found = {"1 set(3, 0, 1) = NULL", "1 drop(3) = NULL", "1 copy(0, 0, 3, 0, 1) = NULL",
            "1 copy(3, 0, 0, 0, 1) = NULL", "1 fits(0, 3, 0, 1, 0) = NULL", "2 set(0, 12, 1) = PLACE",
            "2 set(0, -1, 1) = PLACE", "2 copy(0, 11, 0, 0, 2) = PLACE", "2 copy(0, 0, 0, 11, 2) = PLACE",
            "2 fits(0, 0, 12, 1, 0) = PLACE", "3 as(0, 3) = KIND", "4 row(0, 0, -1) = SIZE",
            "4 row(3, 2, LEAST) = SIZE", "5 copy(0, 0, 1, 0, 1) = STORE"};
        for (String call : found) {
            Scene.unchanged(call, Scene.made().then(call.substring(2)), call.charAt(0) - '0');
        }
    }
}
