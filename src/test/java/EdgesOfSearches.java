/** Part 3, the best round, the beat to be changed, the fewest streets; promises 21 to 23. */
final class EdgesOfSearches {
    private EdgesOfSearches() {
    }

    static void test() {
        leastRobbedRound();
        thenMostSleep();
        thenTheFirst();
        tuneTells();
        tuneRefuses();
        leastRobbedShift();
        thenTheFirstShift();
        shiftRefuses();
        fewestStreets();
        coverRefuses();
    }

    private static void leastRobbedRound() {
        Doc.says("Part 3", "TUNE of k BEATS (1 to 4) for n HOURS (1 to 12): of all ROUNDS of k BEATS in place of"
            + " THE ROUND now that by which least more is ROBBED in them,");
        // One of the two is always robbed of 1.
        Run.town("d0,1;t20,60;t20,60;r0;r1;").then("""
            tune(1, 1, -1) = 1 tune(1, 12, -1) = 12 tune(4, 12, -1) = 12 tune(0, 1, -1) = BAD
            tune(5, 1, -1) = BAD tune(1, 0, -1) = BAD tune(1, 13, -1) = BAD""");
        // In hour h the streets from h on sleep: to be there in turn saves 9 in each of four hours.
        Run.town("d0,9;t1,60;t2,60;t3,60;t4,60;r3;").then("""
            tune(4, 4, -1) = 54 tune(4, 4, 0) = 0 tune(4, 4, 1) = 1 tune(4, 4, 2) = 2 tune(4, 4, 3) = 3
            tune(1, 4, -1) = 54 tune(1, 4, 0) = 3""");
        // Now: in hour 1 a round of two is at its beat 1, one of three too, one of one at its beat 0.
        Run.town("d0,5;t20,0;t20,50;t20,9;r0;").then("""
            hours(1) count(6) = 10 tune(2, 1, -1) = 4 tune(2, 1, 0) = 0 tune(2, 1, 1) = 1
            tune(3, 1, 0) = 0 tune(3, 1, 1) = 1 tune(3, 1, 2) = 0 tune(1, 1, 0) = 1
            hours(1) tune(2, 1, 0) = 1 tune(2, 1, 1) = 0 tune(3, 1, 1) = 0 tune(3, 1, 2) = 1""");
        // By the REACH that is now, and by it alone: from street 1 all are heard.
        Run.town("d1,9;t9,60;t9,60;t9,60;r0;").then("""
            tune(1, 12, -1) = 0 tune(1, 12, 0) = 1 reach(0) tune(1, 1, -1) = 18 tune(1, 1, 0) = 0""");
        // Nowhere are the first and the last of eight streets both heard.
        Run.town("d3,9;t20,60;" + "t20,0;".repeat(6) + "t20,60;r0;").then("tune(1, 1, -1) = 9 tune(1, 1, 0) = 0");
        // Eight that wake are not one that is robbed.
        Run.town("d0,1;" + "t1,0;".repeat(8) + "r0;").then("tune(1, 1, -1) = 0 tune(4, 12, -1) = 0");
        // The round of the eighth street, of eight.
        Run.town("d0,9;" + "t20,0;".repeat(7) + "t20,60;r0;").then("""
            tune(4, 12, -1) = 0 tune(4, 12, 0) = 7 tune(4, 12, 1) = 7 tune(4, 12, 2) = 7 tune(4, 12, 3) = 7""");
    }

    private static void thenMostSleep() {
        Doc.says("Part 3", "of several that by which most STREETS SLEEP behind them,");
        // Nothing is robbed: only from street 2 does the alley stay asleep; a tannery wakes in any case.
        Run.town("d0,9;t1,0;t9,0;a1,0;r0;").then("tune(1, 1, -1) = 0 tune(1, 1, 0) = 2");
        // Two alleys that would wake are kept asleep from the street between them.
        Run.town("d1,0;a9,0;a1,0;t9,0;a1,0;r0;").then("tune(1, 1, 0) = 2 tune(1, 1, -1) = 0");
        // What is robbed comes first, though it were 1 only, and sleep for seven.
        Run.town("d3,1;" + "a1,0;".repeat(4) + "t9,0;t9,0;t9,0;t9,1;r0;").then("tune(1, 1, -1) = 0 tune(1, 1, 0) = 4");
        // They sleep behind the hours, whatever they did within: the garrison wakes and is heard then.
        Run.town("d0,0;a1,0;g2,0;r1;").then("tune(2, 2, 0) = 0 tune(2, 2, 1) = 1");
    }

    private static void thenTheFirst() {
        Doc.says("Part 3", "of several the first (by STREETS, BEAT by BEAT): how much; which STREET the j-th BEAT is.");
        Run.town("d0,9;t9,0;t9,0;t9,0;r2;").then("""
            tune(1, 1, 0) = 0 tune(4, 12, 0) = 0 tune(4, 12, 1) = 0 tune(4, 12, 2) = 0 tune(4, 12, 3) = 0""");
        // Each alley must be heard once in two hours: 0, 1 comes ahead of 1, 0.
        Run.town("d0,0;a1,0;a1,0;r1;").then("tune(2, 2, 0) = 0 tune(2, 2, 1) = 1 tune(2, 2, -1) = 0");
        // Of four beats that are come to in one hour only, beat 0 matters; the others are the first street.
        Run.town("d0,9;t9,0;t9,60;t9,60;r0;").then("""
            tune(4, 1, -1) = 9 tune(4, 1, 0) = 1 tune(4, 1, 1) = 0 tune(4, 1, 2) = 0 tune(4, 1, 3) = 0""");
    }

    private static void tuneTells() {
        Doc.says(21, "TUNE: how much (j = -1), the j-th BEAT (0 on; NONE: not so many).");
        Run.town("d0,9;t9,0;t9,60;t9,60;r0;").then("""
            tune(1, 1, -1) = 9 tune(1, 1, 0) = 1 tune(1, 1, 1) = NONE tune(2, 1, 1) = 0 tune(2, 1, 2) = NONE
            tune(3, 1, 2) = 0 tune(3, 1, 3) = NONE tune(4, 1, 3) = 0 tune(4, 1, 4) = NONE
            tune(4, 1, MOST) = NONE tune(1, 1, MOST) = NONE""");
    }

    private static void tuneRefuses() {
        Doc.says(21, "BAD: j below -1, too; STATE: no TOWN (ahead of BAD).");
        int[] good = {2, 3, 0};
        Bounds.hold("tune", good, 0, 1, 4);
        Bounds.hold("tune", good, 1, 1, 12);
        Bounds.taken("tune", good, 2, -1);
        Bounds.taken("tune", good, 2, Integer.MAX_VALUE);
        Bounds.refused("tune", good, 2, -2);
        Bounds.refused("tune", good, 2, Integer.MIN_VALUE);
        Run.fresh().then("tune(1, 1, 0) = STATE tune(0, 0, -2) = STATE tune(1, 1, 1) = STATE tune(5, 13, 9) = STATE");
        Run.town("d0,0;a1,0;r0;").then("tune(5, 1, 9) = BAD tune(1, 13, 9) = BAD tune(0, 1, MOST) = BAD");
    }

    private static void leastRobbedShift() {
        Doc.says("Part 3", "SHIFT for n HOURS (1 to 30): of single BEATS that are another STREET now that by which"
            + " least more is ROBBED in them, less than as it is,");
        // Robbed in two hours of three; with one beat more in its street, in one of three.
        Run.town("d0,1;a20,60;t1,0;r0;r1;r1;").then("""
            shift(30, 0) = 10 shift(30, 1) = 10 shift(29, 1) = 9 shift(31, 0) = BAD shift(0, 0) = BAD
            shift(1, 0) = NONE shift(1, 1) = NONE shift(2, 0) = 10 shift(2, 1) = 0
            hours(5) count(6) = 3 shift(30, 1) = 10 shift(1, 0) = 20 shift(1, 1) = 0""");
        // As much as it is is not less.
        Run.town("d0,3;t9,3;t9,3;r0;").then("shift(1, 0) = NONE shift(1, 1) = NONE shift(30, 0) = NONE");
        Run.town("d0,3;t9,3;t9,4;r0;").then("shift(1, 0) = NONE shift(2, 0) = 1 shift(2, 1) = 3");
        Run.town("d0,0;t9,60;t9,60;r0;").then("shift(30, 0) = NONE");
        // Less than as it is in these hours, whatever was robbed before.
        Run.town("d0,3;t9,9;t9,9;r0;").then("hours(1) count(6) = 3 shift(1, 0) = NONE shift(1, 1) = NONE");
        // Beat 0 in no street at all would do as well, and comes first; but it can only be another street.
        Run.town("d0,6;n0,60;g0,60;r1;r1;r0;r0;").then("shift(4, 0) = 10 shift(4, 1) = 6");
        // The least: street 2 has more to lose than street 1.
        Run.town("d0,9;t9,1;t9,2;t9,3;t9,2;r0;").then("shift(1, 0) = 2 shift(1, 1) = 5");
        // One beat only is moved: two streets cannot both be heard in both hours.
        Run.town("d0,9;t9,0;t9,60;r0;r0;").then("shift(2, 0) = 1 shift(2, 1) = 9");
    }

    private static void thenTheFirstShift() {
        Doc.says("Part 3", "of several the first (by BEATS, then by STREETS): 10 the BEAT and the STREET; how much; NONE.");
        Doc.names(22, "SHIFT: which (what = 0), how much (1); NONE.");
        Run.town("d0,3;t20,0;t20,60;t20,60;r0;r0;").then("shift(2, 0) = 1 shift(2, 1) = 9 shift(1, 0) = 1 shift(1, 1) = 3");
        Run.town("d0,3;t20,60;t20,0;r1;").then("shift(1, 0) = 0 shift(1, 1) = 0");
        // Beat 1 saves as much by street 2 as by street 1, and beat 0 is not come to.
        Run.town("d0,3;t20,0;t20,60;t20,60;r0;r0;").then("hours(1) shift(1, 0) = 11 shift(1, 1) = 3");
        // Only the last beat and the last street help.
        Run.town("d0,9;" + "t20,0;".repeat(8) + "r0;".repeat(8)).then("""
            hours(7) bring(7, 60) shift(1, 0) = 77 shift(1, 1) = 0 shift(7, 0) = 7 shift(7, 1) = 54
            shift(30, 0) = NONE""");
    }

    private static void shiftRefuses() {
        Doc.says(22, "BAD; STATE: no TOWN (ahead of BAD).");
        Bounds.hold("shift", new int[] {1, 0}, 0, 1, 30);
        Bounds.hold("shift", new int[] {1, 0}, 1, 0, 1);
        Run.fresh().then("shift(1, 0) = STATE shift(0, 0) = STATE shift(31, 2) = STATE shift(1, -1) = STATE");
    }

    private static void fewestStreets() {
        Doc.says("Part 3", "COVER: the fewest STREETS so that the drum in these would be HEARD in all: how many;"
            + " which (bits), of several the least.");
        Doc.names(23, "COVER: how many (what = 0), which (1).");
        // By REACH 0 to 3, for one to eight streets: how many, and which.
        int[][] many = {{1, 2, 3, 4, 5, 6, 7, 8}, {1, 1, 1, 2, 2, 2, 3, 3}, {1, 1, 1, 1, 1, 2, 2, 2},
            {1, 1, 1, 1, 1, 1, 1, 2}};
        int[][] which = {{1, 3, 7, 15, 31, 63, 127, 255}, {1, 1, 2, 5, 9, 18, 37, 73}, {1, 1, 1, 2, 4, 9, 17, 33},
            {1, 1, 1, 1, 2, 4, 8, 17}};
        for (int reach = 0; reach <= 3; reach++) {
            for (int streets = 1; streets <= 8; streets++) {
                Run.town("d" + reach + ",0;" + "a1,1;".repeat(streets) + "r0;").then(
                    "cover(0) = " + many[reach][streets - 1] + " cover(1) = " + which[reach][streets - 1]);
            }
        }
        Run.town("d0,0;a1,1;a1,1;a1,1;r0;").then("cover(1) = 7 reach(1) cover(1) = 2 cover(0) = 1");
    }

    private static void coverRefuses() {
        Doc.says(23, "BAD; STATE: no TOWN (ahead of BAD).");
        Bounds.hold("cover", new int[] {0}, 0, 0, 1);
        Run.fresh().then("cover(0) = STATE cover(1) = STATE cover(2) = STATE cover(-1) = STATE");
    }
}
