/** Part 3, what a row tells, dropped sticks, years by draws; promises 26 to 28. */
final class EdgesOfGuesses {
    private static final String EIGHT_ALLEYS = "d0,0;" + "a5,0;".repeat(8) + "r0;";

    private EdgesOfGuesses() {
    }

    static void test() {
        aRowTells();
        sorts();
        deeps();
        reaches();
        places();
        fitsTells();
        fitsRefuses();
        sticksFall();
        dropsTells();
        dropsRefuses();
        drawsGoOn();
        drawsMoveBeats();
        drawsBringLoot();
        drawnTells();
        drawnRefuses();
    }

    private static void aRowTells() {
        Doc.says("Part 3", "A row tells DEEP of a STREET behind each of n HOURS (1 to 12) from now on.");
        Run run = Run.town("d0,0;t20,0;r0;").then("row(0, 0, 13)");
        for (int i = 0; i < 13; i++) {
            run.call("set", 0, i, 19 - i);
        }
        run.then("""
            fits(0, 0, 0, 1, 1) = 1048576 fits(0, 0, 0, 12, 1) = 1048576 fits(0, 0, 1, 12, 1) = 524288
            fits(0, 0, 0, 0, 1) = BAD fits(0, 0, 0, 13, 1) = BAD
            fits(0, 0, 0, 12, 0) = 48 fits(0, 0, 1, 12, 0) = 0
            hours(1) fits(0, 0, 0, 12, 0) = 0 fits(0, 0, 1, 12, 0) = 48
            set(0, 12, 99) fits(0, 0, 1, 11, 0) = 48 fits(0, 0, 1, 12, 0) = 0
            set(0, 1, 17) fits(0, 0, 1, 11, 0) = 0 fits(0, 0, 1, 1, 0) = 0""");
    }

    private static void sorts() {
        Doc.says("Part 3", "SORTS: KINDS (bits 1 to 5) of it by which it is so;");
        // Street 0 hears in hour 0, street 1 does not; street 2 is at 1 and does not.
        Run.town("d0,0;g10,0;g10,0;a1,0;r0;").then("""
            row(0, 2, 1) set(0, 0, 12) fits(0, 0, 0, 1, 0) = 10 fits(1, 0, 0, 1, 0) = 0
            set(0, 0, 14) fits(0, 0, 0, 1, 0) = 4 set(0, 0, 9) fits(0, 0, 0, 1, 0) = 48
            fits(1, 0, 0, 1, 0) = 22 set(0, 0, 7) fits(0, 0, 0, 1, 0) = 0 fits(1, 0, 0, 1, 0) = 8
            set(0, 0, 0) fits(0, 0, 0, 1, 0) = 0 fits(1, 0, 0, 1, 0) = 32 fits(2, 0, 0, 1, 0) = 62
            set(0, 0, 13) fits(0, 0, 0, 1, 0) = 0 kind(0) = 3""");
    }

    private static void deeps() {
        Doc.says("Part 3", "DEEPS (0 to 20, bits) of it now;");
        Run.town("d0,0;a5,0;t5,0;p5,0;g5,0;r0;").then("""
            row(0, 2, 1) set(0, 0, 0) fits(0, 0, 0, 1, 1) = 0 fits(1, 0, 0, 1, 1) = 3
            fits(2, 0, 0, 1, 1) = 2097151 fits(3, 0, 0, 1, 1) = 15
            set(0, 0, 2) fits(0, 0, 0, 1, 1) = 1 set(0, 0, 19) fits(1, 0, 0, 1, 1) = 1048576
            fits(0, 0, 0, 1, 1) = 131072 set(0, 0, 20) fits(0, 0, 0, 1, 1) = 1835008 fits(1, 0, 0, 1, 1) = 0
            set(0, 0, 21) fits(0, 0, 0, 1, 1) = 0 set(0, 0, -1) fits(1, 0, 0, 1, 1) = 0
            set(0, 0, 256) fits(2, 0, 0, 1, 1) = 0 set(0, 0, MOST) fits(0, 0, 0, 1, 1) = 0
            set(0, 0, LEAST) fits(2, 0, 0, 1, 1) = 0 street(0, 0) = 5""");
    }

    private static void reaches() {
        Doc.says("Part 3", "REACHES (0 to 3, bits);");
        Run.town(EIGHT_ALLEYS).then("""
            row(0, 0, 1) set(0, 0, 7) fits(0, 0, 0, 1, 2) = 15 fits(1, 0, 0, 1, 2) = 14 fits(2, 0, 0, 1, 2) = 12
            fits(3, 0, 0, 1, 2) = 8 fits(4, 0, 0, 1, 2) = 0 fits(7, 0, 0, 1, 2) = 0
            set(0, 0, 4) fits(0, 0, 0, 1, 2) = 0 fits(1, 0, 0, 1, 2) = 1 fits(2, 0, 0, 1, 2) = 3
            fits(3, 0, 0, 1, 2) = 7 fits(4, 0, 0, 1, 2) = 15 fits(7, 0, 0, 1, 2) = 15 count(4) = 0""");
    }

    private static void places() {
        Doc.says("Part 3", "PLACES: STREETS (bits) of the BEAT of this HOUR.");
        Run.town(EIGHT_ALLEYS).then("""
            row(0, 0, 1) set(0, 0, 7) fits(0, 0, 0, 1, 3) = 1 fits(7, 0, 0, 1, 3) = 128
            set(0, 0, 4) fits(0, 0, 0, 1, 3) = 254 fits(7, 0, 0, 1, 3) = 127
            reach(3) fits(7, 0, 0, 1, 3) = 15 set(0, 0, 7) fits(7, 0, 0, 1, 3) = 240 round(0) = 0""");
        Run.town("d0,0;a5,0;r0;").then("row(0, 0, 1) set(0, 0, 7) fits(0, 0, 0, 1, 3) = 1");
        // In hour 1 it is beat 1, that comes again in hour 3; beat 0 is where it is.
        Run.town("d0,0;a5,0;a5,0;a5,0;r2;r0;").then("""
            hours(1) street(0, 0) = 4 row(0, 0, 3) set(0, 0, 6) set(0, 1, 5) set(0, 2, 7) fits(0, 0, 0, 3, 3) = 1
            set(0, 0, 3) set(0, 1, 2) set(0, 2, 1) fits(0, 0, 0, 3, 3) = 6
            set(0, 2, 4) fits(0, 0, 0, 3, 3) = 0 fits(0, 0, 0, 2, 3) = 6 round(0) = 2 round(1) = 0""");
    }

    private static void fitsTells() {
        Doc.says(26, "SORTS (what = 0), DEEPS (1), REACHES (2), PLACES (3) by DEEP, n ITEMS of a ROW from i on.");
        Run.town("d1,0;a5,0;a5,0;a5,0;r0;").then("""
            row(7, 1, 40) set(7, 38, 7) set(7, 39, 9)
            fits(1, 7, 38, 2, 0) = 10 fits(1, 7, 38, 2, 1) = 32 fits(1, 7, 38, 2, 2) = 14 fits(1, 7, 38, 2, 3) = 7
            fits(1, 7, 38, 1, 3) = 7 fits(1, 7, 39, 1, 3) = 0 fits(1, 7, 37, 1, 1) = 0 status() = 0""");
    }

    private static void fitsRefuses() {
        Doc.says(26, "BAD: STREET, ROW, n, what; NULL; PLACE.");
        int[] good = {0, 0, 0, 2, 0};
        Bounds.hold("fits", good, 0, 0, 2);
        Bounds.hold("fits", good, 1, 0, 7);
        Bounds.hold("fits", good, 3, 1, 12);
        Bounds.hold("fits", good, 4, 0, 3);
        Run.town(EIGHT_ALLEYS).then("""
            row(0, 0, 12) row(1, 1, 0) row(2, 2, 5)
            fits(0, 3, 0, 1, 0) = NULL fits(0, 3, -1, 12, 3) = NULL status() = 1
            fits(0, 0, -1, 1, 0) = PLACE status() = 2 fits(0, 0, 12, 1, 0) = PLACE fits(0, 0, 11, 1, 0) = 0
            fits(0, 0, 11, 2, 0) = PLACE fits(0, 0, 0, 12, 0) = 0 fits(0, 0, 1, 12, 0) = PLACE
            fits(0, 1, 0, 1, 0) = PLACE fits(0, 2, 0, 5, 0) = 0 status() = 0 fits(0, 2, 0, 6, 0) = PLACE
            fits(0, 0, MOST, 12, 0) = PLACE fits(0, 0, LEAST, 12, 0) = PLACE fits(0, 0, -1, 12, 0) = PLACE
            fits(8, 3, 0, 1, 0) = BAD fits(0, 3, 0, 0, 0) = BAD fits(0, 3, 0, 1, 4) = BAD status() = 2""");
        Run.fresh().then("row(0, 0, 1) fits(0, 0, 0, 1, 0) = BAD");
    }

    /** A fraction in its two numbers. */
    private static void fraction(Run run, int street, int n, int c, int above, int below) {
        String call = "drops(" + street + ", " + n + ", " + c;
        run.then(call + ", 0) = " + above + " " + call + ", 1) = " + below);
    }

    private static void sticksFall() {
        Doc.says("Part 3", "DROP: in each of n HOURS (0 to 8) from now on nothing is HEARD by c of 10, each by itself:"
            + " that a STREET is AWAKE behind them: a fraction.");
        Run run = Run.town("d0,0;a1,0;g20,0;a0,0;t2,0;r0;");
        fraction(run, 0, 0, 3, 0, 1);
        fraction(run, 2, 0, 3, 1, 1);
        fraction(run, 0, 1, 3, 3, 10);
        fraction(run, 0, 2, 1, 1, 100);
        fraction(run, 0, 1, 0, 0, 1);
        fraction(run, 0, 1, 10, 1, 1);
        fraction(run, 0, 8, 10, 1, 1);
        fraction(run, 0, 8, 0, 0, 1);
        fraction(run, 1, 6, 5, 0, 1);
        fraction(run, 1, 7, 5, 1, 1);
        fraction(run, 3, 1, 9, 0, 1);
        fraction(run, 3, 2, 9, 1, 1);
        // A pump sleeps on only if they fall in none of the hours: by 9 of 10, eight times.
        fraction(Run.town("d0,0;p9,0;r0;"), 0, 8, 1, 56953279, 100000000);
        fraction(Run.town("d0,0;p9,0;r0;"), 0, 8, 9, 99999999, 100000000);
        // From now on: in hour 0 the nursery is four deeper, and awake only if they always fall;
        // from hour 1 on it is two deeper, and awake, too, if they fall in the last two of three hours.
        fraction(Run.town("d0,0;n0,0;r0;"), 0, 3, 5, 1, 8);
        fraction(Run.town("d0,0;n0,0;t0,0;r1;r0;r0;r0;").then("hours(1)"), 0, 3, 5, 1, 4);
        // He goes on his round all the while: the alley hears in the second hour only.
        run = Run.town("d0,0;a1,0;t0,0;r1;r0;");
        fraction(run, 0, 1, 4, 1, 1);
        fraction(run, 0, 2, 4, 2, 5);
    }

    private static void dropsTells() {
        Doc.says(27, "DROP (c 0 to 10): above (what = 0), below (1).");
        Run.town("d0,0;a1,0;r0;").then("""
            drops(0, 1, 0, 0) = 0 drops(0, 1, 0, 1) = 1 drops(0, 1, 1, 0) = 1 drops(0, 1, 1, 1) = 10
            drops(0, 1, 6, 0) = 3 drops(0, 1, 6, 1) = 5 drops(0, 1, 9, 0) = 9 drops(0, 1, 9, 1) = 10
            drops(0, 1, 10, 0) = 1 drops(0, 1, 10, 1) = 1""");
    }

    private static void dropsRefuses() {
        Doc.says(27, "BAD.");
        int[] good = {0, 1, 5, 0};
        Bounds.hold("drops", good, 0, 0, 2);
        Bounds.hold("drops", good, 1, 0, 8);
        Bounds.hold("drops", good, 2, 0, 10);
        Bounds.hold("drops", good, 3, 0, 1);
        Run.fresh().then("drops(0, 0, 0, 0) = BAD");
    }

    private static void drawsGoOn() {
        Doc.says("Part 3", "YEARS of n HOURS (0 to 60) by a SEED (X at first): ahead of each X becomes the rest of"
            + " (X times 16807) by 2147483647;");
        // Only street 7 sleeps, and has something to lose only if a draw brings it there.
        Run.town("d0,9;" + "t0,0;".repeat(7) + "t20,0;r0;").then("""
            drawn(0, 127826, 0) = 0 drawn(1, 127826, 0) = 9 drawn(1, 127825, 0) = 0 drawn(1, 999992, 0) = 9
            drawn(1, 999991, 0) = 0 drawn(1, 56, 0) = 0 drawn(2, 56, 0) = 9""");
        // As ../shared/tests has it.
        Run.town("d1,3;a5,20;n3,9;g8,30;t6,14;p4,0;r0;r2;r4;").then("""
            drawn(60, 9, 0) = 110 drawn(60, 9, 1) = 3 drawn(20, 7, 0) = 69 drawn(20, 7, 1) = 2
            drawn(61, 9, 0) = BAD drawn(-1, 9, 0) = BAD""");
    }

    private static void drawsMoveBeats() {
        Doc.says("Part 3", "the BEAT that is the rest of X by how many there are is the STREET that is the rest of X by"
            + " how many there are, if X by 3 leaves 0;");
        // All is taken but where he is: 15 in all. 30 gives 504210, beat 0 and street 2; 15 gives 252105, beat 1
        // and street 1, where he is in the second hour.
        Run.town("d0,9;t9,1;t9,2;t9,4;t9,8;r0;r0;").then("""
            drawn(1, 30, 0) = 11 drawn(1, 15, 0) = 14 drawn(2, 15, 0) = 15 drawn(1, 1, 0) = 14
            round(0) = 0 round(1) = 0""");
        Run.town("d0,9;t9,1;t9,2;t9,4;t9,8;r0;").then("drawn(1, 15, 0) = 13 drawn(1, 3, 0) = 13");
        // Of one street and one beat the rest is always 0, of an uneven X too.
        Run.town("d0,9;t9,60;r0;").then("drawn(1, 3, 0) = 0 drawn(60, 3, 0) = 0");
        // 9 gives 151263: the last beat, the last street.
        Run.town("d0,9;" + "t20,0;".repeat(8) + "r0;".repeat(8)).then("""
            hours(7) bring(7, 60) drawn(1, 9, 0) = 0 drawn(1, 1, 0) = 9 round(7) = 0""");
    }

    private static void drawsBringLoot() {
        Doc.says("Part 3", "else, if X by 5 leaves 0, LOOT of that STREET is 60; then the HOUR: what they ROBBED;"
            + " how many are AWAKE at last.");
        // 5 gives 84035: street 3 has 60, of which 9 are taken. 15 gives 252105, by 3 and by 5: no loot.
        Run.town("d0,9;t9,1;t9,2;t9,4;t9,8;r0;r0;").then("""
            drawn(1, 5, 0) = 15 drawn(1, 15, 0) = 14 street(3, 1) = 8""");
        // 1055 gives 17731385, street 1; the eight draws behind it do nothing.
        Run.town("d0,9;t20,0;t20,50;r0;").then("drawn(9, 1055, 0) = 60 drawn(6, 1055, 0) = 54 drawn(9, 1055, 1) = 0");
        // What they robbed, not what was robbed before; awake behind the hours, not ahead.
        Run.town("d0,9;t9,1;t2,20;t1,0;t0,0;r0;").then("""
            drawn(0, 1, 0) = 0 drawn(0, 1, 1) = 1 drawn(1, 1, 1) = 2 drawn(1, 1, 0) = 9 hours(1) count(6) = 9
            drawn(0, 1, 0) = 0 drawn(0, 1, 1) = 2 drawn(1, 1, 0) = 9 drawn(1, 1, 1) = 3 drawn(60, 1, 1) = 4""");
    }

    private static void drawnTells() {
        Doc.says(28, "YEARS by a SEED (1 to 999999): ROBBED (what = 0), AWAKE (1).");
        Run.town("d0,9;t9,1;t9,2;t1,4;t0,8;r0;").then("""
            drawn(1, 1, 0) = 6 drawn(1, 1, 1) = 2 drawn(1, 999999, 0) = 6 drawn(1, 999999, 1) = 2""");
    }

    private static void drawnRefuses() {
        Doc.says(28, "BAD; STATE: no TOWN (ahead of BAD).");
        int[] good = {1, 1, 0};
        Bounds.hold("drawn", good, 0, 0, 60);
        Bounds.hold("drawn", good, 1, 1, 999999);
        Bounds.hold("drawn", good, 2, 0, 1);
        Run.fresh().then("drawn(0, 1, 0) = STATE drawn(61, 1, 0) = STATE drawn(0, 0, 0) = STATE drawn(0, 1, 2) = STATE");
    }
}
