/** Part 3, what comes by itself, the least reach, the tax; promises 17 to 20, 24 and 25. */
final class EdgesOfForetold {
    /** The alley is heard in one hour of three and so keeps its depth; it is robbed in the other two. */
    private static final String STEADY = "d0,1;a10,60;t1,0;r0;r1;r1;";

    private EdgesOfForetold() {
    }

    static void test() {
        foretold();
        aheadTells();
        aheadRefuses();
        laterTells();
        laterRefuses();
        wakesFirst();
        wakesRefuses();
        alarmFirst();
        alarmRefuses();
        leastReach();
        spreadRefuses();
        taxes();
        skinsRefuses();
    }

    private static void foretold() {
        Doc.says("Part 3", "FORETOLD (nothing changes) d HOURS on (0 to 60): DEEP, LOOT of a STREET;"
            + " STREETS (bits) that are AWAKE; ROBBED.");
        Run.town(STEADY).then("""
            ahead(0, 0, 0) = 10 ahead(0, 1, 0) = 12 ahead(0, 59, 0) = 11 ahead(0, 60, 0) = 10
            ahead(0, 0, 1) = 60 ahead(0, 59, 1) = 21 ahead(0, 60, 1) = 20 ahead(0, 61, 1) = BAD
            later(0, 0) = 0 later(60, 0) = 2 later(0, 1) = 0 later(59, 1) = 39 later(60, 1) = 40
            later(61, 1) = BAD count(3) = 0 count(6) = 0 count(8) = 0 street(0, 0) = 10 street(0, 1) = 60""");
        String[] foretelling = {"ahead(0, 60, 0)", "later(60, 1)", "wakes(0)", "alarm()", "tune(4, 12, 0)",
            "shift(30, 0)", "cover(1)", "spread(0, 30)", "skins(0, 999)", "drops(0, 8, 5, 0)", "drawn(60, 77, 0)"};
        for (String call : foretelling) {
            Scene.unchanged(call, Scene.made().then(call), Scene.STATUS);
        }
        for (int what = 0; what <= 3; what++) {
            String call = "fits(0, 0, 0, 12, " + what + ")";
            Scene.unchanged(call, Scene.made().then(call), 0);
        }
    }

    private static void aheadTells() {
        Doc.says(17, "DEEP (what = 0), LOOT (1).");
        Run.town(STEADY).then("""
            hours(2) street(0, 1) = 59 ahead(0, 0, 0) = 11 ahead(0, 0, 1) = 59 ahead(0, 1, 0) = 10
            ahead(0, 1, 1) = 58 ahead(0, 2, 0) = 12 ahead(0, 2, 1) = 58 ahead(1, 60, 0) = 0 ahead(1, 60, 1) = 0""");
        // What is foretold goes on beyond the last HOUR that there can be.
        Run late = Run.town(STEADY);
        for (int i = 0; i < 416; i++) {
            late.call("hours", 24);
        }
        late.then("hours(15) count(3) = 9999 lull(0, 20) = 20 ahead(0, 1, 0) = 20 ahead(0, 60, 0) = 18 hours(1) = FULL");
    }

    private static void aheadRefuses() {
        Doc.says(17, "BAD.");
        int[] good = {0, 1, 0};
        Bounds.hold("ahead", good, 0, 0, 2);
        Bounds.hold("ahead", good, 1, 0, 60);
        Bounds.hold("ahead", good, 2, 0, 1);
        Run.fresh().then("ahead(0, 0, 0) = BAD");
    }

    private static void laterTells() {
        Doc.says(18, "AWAKE (what = 0), ROBBED (1), d HOURS on.");
        Run.town("d0,3;t2,9;t1,9;t20,9;r0;").then("""
            later(0, 0) = 0 later(1, 0) = 2 later(2, 0) = 3 later(19, 0) = 3 later(20, 0) = 7 later(60, 0) = 7
            later(1, 1) = 6 later(2, 1) = 9 later(3, 1) = 12 later(60, 1) = 12 hours(1) later(0, 1) = 6
            later(1, 1) = 9 later(0, 0) = 2""");
    }

    private static void laterRefuses() {
        Doc.says(18, "BAD; STATE: no TOWN (ahead of BAD).");
        Bounds.hold("later", new int[] {1, 0}, 0, 0, 60);
        Bounds.hold("later", new int[] {1, 0}, 1, 0, 1);
        Run.fresh().then("later(0, 0) = STATE later(61, 0) = STATE later(0, 2) = STATE later(-1, -1) = STATE");
    }

    private static void wakesFirst() {
        Doc.says("Part 3", "WAKES: behind how many HOURS (0 to 60) a STREET is AWAKE first; NONE.");
        Doc.names(19, "WAKES; NONE.");
        Run.town("d0,0;t0,0;t1,0;t20,0;a0,0;r0;").then("wakes(0) = 0 wakes(1) = 1 wakes(2) = 20 wakes(3) = 0");
        // The alley loses one in four hours, and is at 1 behind 56; 3, 2, 1 and 0 are behind the next.
        Run.town("d0,0;a15,0;t1,0;r0;r1;r1;r1;").then("""
            wakes(0) = 60 lull(0, 1) wakes(0) = NONE hours(1) wakes(0) = NONE hours(2) wakes(0) = NONE
            hours(1) wakes(0) = 60 hours(1) wakes(0) = 59""");
        // Awake first, though it falls asleep and wakes again.
        Run.town("d0,0;a1,0;t1,0;r1;r0;r1;r1;").then("wakes(0) = 1 hours(1) wakes(0) = 0 hours(1) wakes(0) = 2");
        Run.town(STEADY).then("wakes(0) = NONE wakes(1) = 1");
    }

    private static void wakesRefuses() {
        Doc.says(19, "BAD.");
        Bounds.hold("wakes", new int[] {0}, 0, 0, 2);
        Run.fresh().then("wakes(0) = BAD");
    }

    private static void alarmFirst() {
        Doc.says("Part 3", "ALARM: behind how many HOURS (0 to 60) all are AWAKE first; NONE.");
        Doc.names(20, "ALARM; NONE.");
        Run.town("d0,0;t0,0;p0,0;r1;").then("alarm() = 0 lull(0, 1) alarm() = 1 lull(0, 19) alarm() = 20");
        Run.town("d0,0;a15,0;t1,0;r0;r1;r1;r1;").then("""
            alarm() = 60 lull(0, 1) alarm() = NONE hours(4) alarm() = 60""");
        // Each wakes, but never both: the drum that is not heard in one is heard in the other.
        Run.town("d0,0;a0,0;a0,0;r0;r1;").then("alarm() = 0 hours(1) alarm() = NONE wakes(0) = NONE wakes(1) = 0");
        Run.town("d0,0;a1,0;r0;").then("alarm() = NONE");
        Run.town("d0,0;" + "t3,0;".repeat(7) + "t4,0;r0;").then("alarm() = 4");
    }

    private static void alarmRefuses() {
        Doc.says(20, "STATE: no TOWN.");
        Run.fresh().then("alarm() = STATE \"d4\" town() alarm() = STATE");
    }

    private static void leastReach() {
        Doc.says("Part 3", "SPREAD for a STREET, n HOURS (1 to 30): the least REACH (0 to 3) now by which it SLEEPS"
            + " behind them; NONE.");
        Doc.names(24, "SPREAD; NONE.");
        Run.town("d3,0;a1,0;a1,0;a1,0;a1,0;a1,0;t1,0;t2,0;a9,0;r0;").then("""
            spread(0, 1) = 0 spread(1, 1) = 1 spread(2, 1) = 2 spread(3, 1) = 3 spread(4, 1) = NONE
            spread(5, 1) = NONE spread(6, 1) = 0 spread(6, 2) = NONE spread(7, 8) = 0 spread(7, 9) = NONE
            spread(3, 30) = 3 spread(0, 30) = 0 spread(4, 30) = NONE count(4) = 3""");
        // It sleeps behind them, whatever it did within: awake in hour 1, heard in hour 2.
        Run.town("d0,0;a1,0;t1,0;r1;r0;").then("spread(0, 1) = 1 spread(0, 2) = 0 spread(0, 3) = 0");
        // Heard in the last of six hours only, it is awake behind hour 28 and asleep behind hour 29.
        Run.town("d0,0;g20,0;t1,0;r1;r1;r1;r1;r1;r0;").then("spread(0, 6) = 0 spread(0, 29) = 1 spread(0, 30) = 0");
    }

    private static void spreadRefuses() {
        Doc.says(24, "BAD.");
        Bounds.hold("spread", new int[] {0, 1}, 0, 0, 2);
        Bounds.hold("spread", new int[] {0, 1}, 1, 1, 30);
        Run.fresh().then("spread(0, 1) = BAD");
    }

    private static void taxes() {
        Doc.says("Part 3", "SKINS of a STREET, n in all (0 to 999): n times its LOOT, by LOOT of all (cut),"
            + " what is over 1 each to the first of these that have LOOT; 0, if it has none.");
        Doc.names(25, "SKINS.");
        Run.town("d0,0;a1,0;a1,1;a1,2;a1,0;a1,4;r0;").then("""
            skins(0, 0) = 0 skins(1, 0) = 0 skins(4, 0) = 0
            skins(0, 1) = 0 skins(1, 1) = 1 skins(2, 1) = 0 skins(3, 1) = 0 skins(4, 1) = 0
            skins(0, 2) = 0 skins(1, 2) = 1 skins(2, 2) = 0 skins(3, 2) = 0 skins(4, 2) = 1
            skins(0, 5) = 0 skins(1, 5) = 1 skins(2, 5) = 2 skins(3, 5) = 0 skins(4, 5) = 2
            skins(0, 7) = 0 skins(1, 7) = 1 skins(2, 7) = 2 skins(3, 7) = 0 skins(4, 7) = 4
            skins(0, 999) = 0 skins(1, 999) = 143 skins(2, 999) = 286 skins(3, 999) = 0 skins(4, 999) = 570""");
        Run.town("d0,0;a1,0;a1,0;r0;").then("skins(0, 0) = 0 skins(0, 999) = 0 skins(1, 999) = 0");
        Run.town("d0,0;a1,60;r0;").then("skins(0, 0) = 0 skins(0, 1) = 1 skins(0, 999) = 999");
        Run.town("d0,0;a1,0;a1,1;r0;").then("skins(0, 999) = 0 skins(1, 0) = 0 skins(1, 1) = 1 skins(1, 999) = 999");
        // Eight times 124, and 7 over: only the last has none of these.
        Run.town("d0,0;" + "a1,60;".repeat(8) + "r0;").then("skins(0, 999) = 125 skins(6, 999) = 125 skins(7, 999) = 124");
        // As LOOT is now.
        Run.town("d0,5;t9,10;t9,10;r0;").then("skins(1, 15) = 7 hours(1) skins(0, 15) = 10 skins(1, 15) = 5");
    }

    private static void skinsRefuses() {
        Doc.says(25, "BAD.");
        Bounds.hold("skins", new int[] {0, 5}, 0, 0, 2);
        Bounds.hold("skins", new int[] {0, 5}, 1, 0, 999);
        Run.fresh().then("skins(0, 0) = BAD");
    }
}
