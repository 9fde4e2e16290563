import java.lang.reflect.Field;
import java.lang.reflect.Method;

/** Part 3, kinds; part 4, asks; promises 31 to 34. */
final class EdgesOfAsks {
    /** One street of each kind, in the order of the kinds, with depths and loot all unlike. */
    private static final String FIVE = "d1,3;a5,20;n3,9;g8,30;t6,14;p4,2;r0;r2;r4;";

    private EdgesOfAsks() {
    }

    static void test() {
        kindsOfStreets();
        theTrace();
        sizes();
        marks();
        nearestKind();
        kindTells();
        kindRefuses();
        asTells();
        asRefuses();
        askTells();
        askRefuses();
        askEmptiesTheTrace();
        traceTells();
    }

    private static void kindsOfStreets() {
        Doc.says("Part 3", "KINDS of STREETS: 0 STREET; 1 ALLEY, a STREET; 2 NURSERY, an ALLEY; 3 GARRISON, an ALLEY;"
            + " 4 TANNERY, a STREET; 5 PUMP, a TANNERY. By this it is asked.");
        String[] are = {"01", "012", "013", "04", "045"};
        Run run = Run.town(FIVE);
        for (int s = 0; s < 5; s++) {
            for (int kind = 0; kind <= 5; kind++) {
                boolean is = are[s].indexOf('0' + kind) >= 0;
                run.then("as(" + s + ", " + kind + ") = " + (is ? "" + s : "KIND"));
            }
        }
    }

    /** An ask, its answer, and the whole trace that it leaves. */
    private static void asked(Run run, int street, int what, int want, int... bodies) {
        run.then("ask(" + street + ", " + what + ") = " + want);
        for (int i = 0; i < 17; i++) {
            run.then("trace(" + i + ") = " + (i < bodies.length ? "" + bodies[i] : "NONE"));
        }
    }

    /** No ask has more than six bodies: that only 16 are left is seen where they are left. */
    private static void theTrace() {
        Doc.says("Part 4", "ASKS of STREETS, by BODIES, each of which leaves its number in THE TRACE as it begins"
            + " (the first 16):");
        asked(Run.town(FIVE), 1, 0, -17, 12, 11, 10, 24, 21, 20);
        Run run = Run.town(FIVE).then("ask(3, 0)");
        leaveBodies(run.object, 13);
        run.then("trace(0) = 13 trace(1) = 10 trace(2) = 30 trace(14) = 42 trace(15) = NONE");
        leaveBodies(run.object, 1);
        run.then("trace(15) = 30 trace(16) = NONE");
        leaveBodies(run.object, 5);
        run.then("trace(0) = 13 trace(15) = 30 trace(16) = NONE ask(3, 0) = -86 trace(1) = 10 trace(2) = NONE");
    }

    private static void leaveBodies(DrumPeace object, int many) {
        try {
            Field asks = DrumPeace.class.getDeclaredField("asks");
            asks.setAccessible(true);
            Method leave = asks.get(object).getClass().getDeclaredMethod("leaveTrace", int.class);
            leave.setAccessible(true);
            for (int i = 0; i < many; i++) {
                leave.invoke(asks.get(object), 30 + i);
            }
        } catch (ReflectiveOperationException e) {
            throw new IllegalStateException("where is THE TRACE left now?", e);
        }
    }

    private static void sizes() {
        Doc.says("Part 4", "0 SIZE: 10 lent to all STREETS: LOOT.");
        asked(Run.town(FIVE), 3, 0, 14 - 100, 13, 10);
        asked(Run.town("d0,0;t9,0;r0;"), 0, 0, -100, 13, 10);
        asked(Run.town("d0,0;t9,60;r0;"), 0, 0, -40, 13, 10);
        Doc.says("Part 4", "11 of ALLEYS: what 10 gives, and MARK.");
        asked(Run.town(FIVE), 0, 0, 20 + 5, 11, 10, 21, 20);
        asked(Run.town(FIVE), 2, 0, 30 + 2 + 8 - 1000, 11, 10, 22, 21, 20);
        Doc.says("Part 4", "12 of NURSERIES: 0 less what 11 gives.");
        asked(Run.town(FIVE), 1, 0, -(9 + 2 * (1 + 3)), 12, 11, 10, 24, 21, 20);
        asked(Run.town("d0,0;n0,0;r0;"), 0, 0, 0, 12, 11, 10, 24, 21, 20);
        Doc.says("Part 4", "13 of TANNERIES: what 10 gives, less 100.");
        asked(Run.town("d0,0;t0,60;t0,59;r0;"), 1, 0, -41, 13, 10);
        Doc.says("Part 4", "14 of PUMPS: what 13 gives, twice.");
        asked(Run.town(FIVE), 4, 0, 2 * (2 - 100), 14, 13, 10);
        asked(Run.town("d0,0;p0,60;r0;"), 0, 0, -80, 14, 13, 10);
    }

    private static void marks() {
        Doc.says("Part 4", "1 MARK: 20 lent to all STREETS: the number.");
        asked(Run.town("d0,0;" + "a0,0;".repeat(8) + "r0;"), 7, 1, 7, 21, 20);
        asked(Run.town("d0,0;a0,0;r0;"), 0, 1, 0, 21, 20);
        Doc.says("Part 4", "21 of ALLEYS: what 20 gives, and DEEP.");
        asked(Run.town(FIVE), 0, 1, 5, 21, 20);
        asked(Run.town("d0,0;a0,0;a20,0;r0;"), 1, 1, 21, 21, 20);
        Doc.says("Part 4", "22 of GARRISONS: what 21 gives, less 1000.");
        asked(Run.town(FIVE), 2, 1, 2 + 8 - 1000, 22, 21, 20);
        Doc.says("Part 4", "23 of TANNERIES: what 20 gives, less SIZE.");
        asked(Run.town(FIVE), 3, 1, 3 - (14 - 100), 23, 20, 13, 10);
        asked(Run.town(FIVE), 4, 1, 4 - 2 * (2 - 100), 23, 20, 14, 13, 10);
        Doc.says("Part 4", "24 of NURSERIES: what 21 gives, twice.");
        asked(Run.town(FIVE), 1, 1, 2 * (1 + 3), 24, 21, 20);
    }

    private static void nearestKind() {
        Doc.says("Part 4", "(Of an ask the BODY told for the KIND begins, else that of the nearest KIND that it is, too,"
            + " else the one that is lent; SIZE, MARK within others are asked of the same STREET anew.)");
        // A garrison has no SIZE of its own, a pump no MARK; within, each is asked by its own again.
        Run.town(FIVE).then("""
            ask(2, 0) trace(0) = 11 trace(2) = 22 ask(4, 1) trace(0) = 23 trace(2) = 14
            ask(1, 0) trace(0) = 12 trace(3) = 24 ask(3, 1) trace(2) = 13 ask(0, 0) trace(2) = 21""");
    }

    private static void kindTells() {
        Doc.says(31, "The KIND of a STREET, as told (1 to 5).");
        Run.town(FIVE).then("kind(0) = 1 kind(1) = 2 kind(2) = 3 kind(3) = 4 kind(4) = 5");
    }

    private static void kindRefuses() {
        Doc.says(31, "BAD.");
        Bounds.hold("kind", new int[] {0}, 0, 0, 2);
        Run.fresh().then("kind(0) = BAD");
    }

    private static void asTells() {
        Doc.says(32, "A STREET is taken as one of a KIND (0 .. 5): its number.");
        Run.town(FIVE).then("as(0, 0) = 0 as(4, 0) = 4 as(4, 5) = 4 as(2, 3) = 2 status() = 0 kind(4) = 5");
    }

    private static void asRefuses() {
        Doc.says(32, "BAD; KIND: it is no such one.");
        Bounds.hold("as", new int[] {0, 0}, 0, 0, 2);
        Bounds.hold("as", new int[] {0, 0}, 1, 0, 5);
        Run.town(FIVE).then("""
            as(0, 2) = KIND as(0, 5) = KIND as(3, 5) = KIND as(1, 3) = KIND as(2, 2) = KIND as(4, 1) = KIND
            status() = 3 as(5, 5) = BAD as(0, 6) = BAD as(0, -1) = BAD status() = 3""");
        Run.fresh().then("as(0, 0) = BAD status() = 0");
    }

    private static void askTells() {
        Doc.says(33, "An ASK (0, 1) of a STREET.");
        Run.town(FIVE).then("""
            ask(0, 0) = 25 ask(0, 1) = 5 ask(4, 0) = -196 ask(4, 1) = 200
            hours(1) ask(0, 1) = 7 ask(4, 1) = 204 bring(4, 60) ask(4, 0) = -80 ask(4, 1) = 84""");
    }

    private static void askRefuses() {
        Doc.says(33, "BAD.");
        Bounds.hold("ask", new int[] {0, 0}, 0, 0, 2);
        Bounds.hold("ask", new int[] {0, 0}, 1, 0, 1);
        Run.fresh().then("ask(0, 0) = BAD trace(0) = NONE");
    }

    private static void askEmptiesTheTrace() {
        Doc.says(33, "THE TRACE is empty ahead of it.");
        Run run = Run.town(FIVE).then("ask(1, 0) ask(1, 0)");
        asked(run, 1, 0, -17, 12, 11, 10, 24, 21, 20);
        asked(run, 3, 0, -86, 13, 10);
        run.then("ask(5, 0) = BAD trace(0) = 13 trace(1) = 10 trace(2) = NONE hours(1) trace(1) = 10");
    }

    private static void traceTells() {
        Doc.says(34, "Number i of THE TRACE; NONE.");
        Run.fresh().then("trace(0) = NONE trace(-1) = NONE trace(15) = NONE trace(16) = NONE");
        Run.town(FIVE).then("""
            trace(0) = NONE ask(3, 0) trace(-1) = NONE trace(0) = 13 trace(1) = 10 trace(2) = NONE trace(15) = NONE
            trace(16) = NONE trace(MOST) = NONE trace(LEAST) = NONE""");
    }
}
