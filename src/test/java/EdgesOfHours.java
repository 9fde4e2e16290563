import java.lang.reflect.Field;

/** Part 2, what an hour does; promises 15 and 16. */
final class EdgesOfHours {
    private EdgesOfHours() {
    }

    static void test() {
        heardByReach();
        awakeOrAsleep();
        asTheHourBegins();
        thievesTakeWhatTheyCan();
        robbedIsCapped();
        alleys();
        nurseries();
        garrisons();
        tanneries();
        pumps();
        theHourIsOneMore();
        streetTells();
        streetRefuses();
        roundTells();
    }

    private static void heardByReach() {
        Doc.says("Part 2", "HEARD in an HOUR is the drum in STREETS that are REACH or fewer STREETS from that"
            + " in which he is (it, too).");
        String[][] heard = {
            {"10000000", "11000000", "11100000", "11110000"},
            {"00010000", "00111000", "01111100", "11111110"},
            {"00000001", "00000011", "00000111", "00001111"}};
        int[] drummers = {0, 3, 7};
        for (int d = 0; d < drummers.length; d++) {
            for (int reach = 0; reach <= 3; reach++) {
                Run run = Run.town("d" + reach + ",0;" + "a1,0;".repeat(8) + "r" + drummers[d] + ";");
                for (int s = 0; s < 8; s++) {
                    run.then("street(" + s + ", 2) = " + heard[d][reach].charAt(s));
                }
            }
        }
    }

    private static void awakeOrAsleep() {
        Doc.says("Part 2", "A STREET with DEEP 0 is AWAKE, else it SLEEPS.");
        Run.town("d0,5;t0,9;t1,9;t20,60;r0;").then("""
            count(7) = 1 later(0, 0) = 1 wakes(0) = 0 wakes(1) = 1 wakes(2) = 20
            street(1, 4) = 5 street(2, 4) = 5 hours(1) = 3 street(1, 4) = 0 street(2, 4) = 5""");
    }

    private static void asTheHourBegins() {
        Doc.says("Part 2", "An HOUR, all by what there is as it begins:");
        // Street 1 sleeps as it begins and is robbed, though it wakes; street 2 wakes only by the next.
        Run.town("d0,5;a0,9;t1,9;a2,9;r0;").then("""
            hours(1) = 2 street(0, 1) = 9 street(1, 1) = 4 street(2, 1) = 4 count(6) = 10 street(0, 0) = 2
            hours(1) = 6 street(0, 1) = 9 street(1, 1) = 4 street(2, 1) = 0 count(6) = 14""");
        // He is heard by where he is as the hour begins: behind it he is elsewhere.
        Run.town("d0,5;a5,9;a5,9;r0;r1;").then("""
            hours(1) street(0, 0) = 7 street(1, 0) = 4 street(0, 1) = 9 street(1, 1) = 4
            hours(1) street(0, 0) = 6 street(1, 0) = 6 street(0, 1) = 4 street(1, 1) = 4""");
    }

    private static void thievesTakeWhatTheyCan() {
        Doc.says("Part 2", "first the thieves: in each STREET that SLEEPS and does not HEAR, LOOT is less by THIEVES"
            + " (0 at least), so much more is ROBBED");
        Run.town("d0,9;t9,9;t9,8;t9,9;t9,10;t9,0;t0,60;t9,60;r0;").then("""
            street(0, 4) = 0 street(1, 4) = 8 street(2, 4) = 9 street(3, 4) = 9 street(4, 4) = 0
            street(5, 4) = 0 street(6, 4) = 9 hours(1) count(6) = 35
            street(0, 1) = 9 street(1, 1) = 0 street(2, 1) = 0 street(3, 1) = 1 street(4, 1) = 0
            street(5, 1) = 60 street(6, 1) = 51
            hours(1) count(6) = 45 street(1, 1) = 0 street(3, 1) = 0 street(6, 1) = 42""");
        Run.town("d0,0;t9,60;t9,60;r0;").then("hours(5) count(6) = 0 street(1, 1) = 60");
    }

    /** 512 calls cannot bring so much into the town, so the count itself is put near its end. */
    private static void robbedIsCapped() {
        Doc.says("Part 2", "(99999 at most).");
        Run run = Run.town("d0,5;t20,0;t20,60;t20,60;r0;");
        setRobbed(run.object, 99985);
        run.then("hours(1) count(6) = 99995 later(1, 1) = 99999 hours(1) count(6) = 99999");
        run.then("street(1, 1) = 50 street(2, 1) = 50 hours(1) count(6) = 99999 street(2, 1) = 45");
        run.then("undo() undo() count(6) = 99995");
    }

    private static void setRobbed(DrumPeace object, int robbed) {
        try {
            Field town = DrumPeace.class.getDeclaredField("town");
            town.setAccessible(true);
            Field count = town.get(object).getClass().getDeclaredField("robbed");
            count.setAccessible(true);
            count.setInt(town.get(object), robbed);
        } catch (ReflectiveOperationException e) {
            throw new IllegalStateException("where is ROBBED kept now?", e);
        }
    }

    /** How deep a street of a sort sleeps behind hour 0, for each depth from 0 on. */
    private static void slept(char sort, boolean hears, int... deeps) {
        for (int deep = 0; deep < deeps.length; deep++) {
            String street = sort + "" + deep + ",0;";
            Run run = Run.town("d0,0;" + street + "t0,0;" + (hears ? "r0;" : "r1;"));
            run.then("street(0, 3) = " + deeps[deep] + " hours(1) street(0, 0) = " + deeps[deep]);
        }
    }

    private static void alleys() {
        Doc.says("Part 2", "Then DEEP (0 to 20) is other: of an alley that HEARS 2 more, of one that does not 1 less;");
        slept('a', true, 2, 3, 4, 5, 6, 7, 8, 9, 10, 11, 12, 13, 14, 15, 16, 17, 18, 19, 20, 20, 20);
        slept('a', false, 0, 0, 1, 2, 3, 4, 5, 6, 7, 8, 9, 10, 11, 12, 13, 14, 15, 16, 17, 18, 19);
    }

    private static void nurseries() {
        Doc.says("Part 2", "of a nursery as of an alley, but if it HEARS in HOURS that leave 0 by 4,"
            + " twice what an alley's would be more;");
        slept('n', true, 4, 5, 6, 7, 8, 9, 10, 11, 12, 13, 14, 15, 16, 17, 18, 19, 20, 20, 20, 20, 20);
        slept('n', false, 0, 0, 1, 2, 3, 4, 5, 6, 7, 8, 9, 10, 11, 12, 13, 14, 15, 16, 17, 18, 19);
        Run.town("d0,0;n0,0;r0;").then("""
            hours(1) street(0, 0) = 4 hours(1) street(0, 0) = 6 hours(1) street(0, 0) = 8
            hours(1) street(0, 0) = 10 hours(1) street(0, 0) = 14 hours(1) street(0, 0) = 16
            hours(1) street(0, 0) = 18 hours(1) street(0, 0) = 20 hours(1) street(0, 0) = 20""");
        // By HOURS, not by BEATS: in a round of three he is in street 0 in hours 0, 3, 6, 9, 12.
        Run.town("d0,0;n0,0;t0,0;r0;r1;r1;").then("""
            hours(3) street(0, 0) = 2 hours(1) street(0, 0) = 4 hours(2) street(0, 0) = 2
            hours(1) street(0, 0) = 4 hours(5) street(0, 0) = 2 hours(1) street(0, 0) = 6""");
    }

    private static void garrisons() {
        Doc.says("Part 2", "of a garrison as of an alley, but if it does not HEAR, 3 less (the 1 and 2);");
        slept('g', true, 2, 3, 4, 5, 6, 7, 8, 9, 10, 11, 12, 13, 14, 15, 16, 17, 18, 19, 20, 20, 20);
        slept('g', false, 0, 0, 0, 0, 1, 2, 3, 4, 5, 6, 7, 8, 9, 10, 11, 12, 13, 14, 15, 16, 17);
    }

    private static void tanneries() {
        Doc.says("Part 2", "of a tannery 1 less, HEARD or not;");
        slept('t', true, 0, 0, 1, 2, 3, 4, 5, 6, 7, 8, 9, 10, 11, 12, 13, 14, 15, 16, 17, 18, 19);
        slept('t', false, 0, 0, 1, 2, 3, 4, 5, 6, 7, 8, 9, 10, 11, 12, 13, 14, 15, 16, 17, 18, 19);
    }

    private static void pumps() {
        Doc.says("Part 2", "of a pump as of a tannery, but if it does not HEAR, it is 0 at once.");
        slept('p', true, 0, 0, 1, 2, 3, 4, 5, 6, 7, 8, 9, 10, 11, 12, 13, 14, 15, 16, 17, 18, 19);
        slept('p', false, 0, 0, 0, 0, 0, 0, 0, 0, 0, 0, 0, 0, 0, 0, 0, 0, 0, 0, 0, 0, 0);
    }

    private static void theHourIsOneMore() {
        Doc.says("Part 2", "HOUR is 1 more.");
        Run.town("d0,0;a1,0;r0;").then("count(3) = 0 hours(1) count(3) = 1 hours(24) count(3) = 25");
    }

    private static void streetTells() {
        Doc.says(15, "Of a STREET: 0 DEEP, 1 LOOT, 2 whether it HEARS in this HOUR (1, 0), 3 DEEP behind this HOUR,"
            + " 4 what will be ROBBED there in it.");
        Run.town("d0,9;a20,60;a19,8;p20,9;g2,10;n0,60;r0;r4;").then("""
            street(0, 0) = 20 street(0, 1) = 60 street(0, 2) = 1 street(0, 3) = 20 street(0, 4) = 0
            street(1, 0) = 19 street(1, 1) = 8 street(1, 2) = 0 street(1, 3) = 18 street(1, 4) = 8
            street(2, 0) = 20 street(2, 1) = 9 street(2, 2) = 0 street(2, 3) = 0 street(2, 4) = 9
            street(3, 0) = 2 street(3, 1) = 10 street(3, 2) = 0 street(3, 3) = 0 street(3, 4) = 9
            street(4, 0) = 0 street(4, 1) = 60 street(4, 2) = 0 street(4, 3) = 0 street(4, 4) = 0
            count(3) = 0 hours(1)
            street(0, 2) = 0 street(0, 3) = 19 street(0, 4) = 9 street(1, 4) = 0 street(2, 4) = 0
            street(4, 2) = 1 street(4, 3) = 2 hours(3) street(4, 0) = 3
            street(4, 1) = 51 street(4, 2) = 0 street(4, 3) = 2 street(4, 4) = 9 count(3) = 4""");
    }

    private static void streetRefuses() {
        Doc.says(15, "BAD.");
        Bounds.hold("street", new int[] {0, 0}, 0, 0, 2);
        Bounds.hold("street", new int[] {0, 0}, 1, 0, 4);
    }

    private static void roundTells() {
        Doc.says(16, "The STREET of a BEAT. BAD.");
        Run.town("d0,0;a1,0;a1,0;a1,0;r2;r0;r1;").then("""
            round(0) = 2 round(1) = 0 round(2) = 1 hours(1) round(0) = 2 beat(0, 0) round(0) = 0""");
        Bounds.hold("round", new int[] {0}, 0, 0, 1);
    }
}
