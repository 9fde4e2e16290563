/** Part 2, acts; promises 9 to 14, 29, 30 and 35. */
final class EdgesOfActs {
    private static final String THREE = "d1,3;a5,20;n3,9;g8,30;r0;r2;";

    private EdgesOfActs() {
    }

    static void test() {
        twentyFourAreKept();
        whatIsAnAct();
        hoursPass();
        hoursRefuse();
        beatMoves();
        beatRefuses();
        reachChanges();
        reachRefuses();
        lullDeepens();
        bringFills();
        undoTakesBack();
        undoRefuses();
        imageKeeps();
        imageRefuses();
        restoreBringsBack();
        restoreRefuses();
        countTells();
    }

    private static void twentyFourAreKept() {
        Doc.says("Part 2", "ACTS (24 at most are kept, of more the oldest is forgotten; each can be undone,"
            + " the latest first):");
        Run run = Run.town("d0,0;t20,0;r0;").then("reach(1) hours(22) count(8) = 23 bring(0, 1) count(8) = 24");
        for (int left = 23; left >= 0; left--) {
            run.then("undo() = " + left);
        }
        run.then("undo() = STATE count(4) = 0 count(3) = 0 street(0, 0) = 20 street(0, 1) = 0");
        // One more, and the oldest of them, the reach, cannot be undone.
        run.then("reach(1) hours(23) count(8) = 24 bring(0, 1) = 1 count(8) = 24 undo() = 23 street(0, 1) = 0");
        for (int left = 22; left >= 0; left--) {
            run.then("count(3) = " + (left + 1) + " undo() = " + left);
        }
        run.then("undo() = STATE count(4) = 1 count(3) = 0 street(0, 0) = 20");
        // Many more, and the ring has turned: undone they go as they came.
        run.then("hours(24) hours(24) hours(5) count(8) = 24 count(3) = 53");
        for (int left = 23; left >= 0; left--) {
            run.then("undo() = " + left + " count(3) = " + (29 + left));
        }
        run.then("undo() = STATE hours(1) count(8) = 1 undo() = 0 count(3) = 29");
    }

    private static void whatIsAnAct() {
        Doc.says("Part 2", "an HOUR; a BEAT is another STREET; REACH is another; a STREET is lulled (DEEP is more);"
            + " LOOT is brought.");
        Run.town(THREE).then("""
            hours(2) count(8) = 2 beat(0, 1) count(8) = 3 reach(0) count(8) = 4 lull(0, 1) count(8) = 5
            bring(0, 1) count(8) = 6 image(0) count(8) = 6 ahead(0, 5, 0) later(5, 0) wakes(0) alarm()
            tune(2, 3, 0) shift(3, 0) cover(0) spread(0, 3) skins(0, 5) drops(0, 2, 5, 0) drawn(5, 5, 0)
            row(0, 0, 1) set(0, 0, 1) fits(0, 0, 0, 1, 0) drop(0) ask(0, 0) as(0, 0) kind(0)
            feed(100) town() count(8) = 6
            undo() = 5 undo() = 4 undo() = 3 undo() = 2 undo() = 1 undo() = 0 undo() = STATE""");
    }

    private static void hoursPass() {
        Doc.says(9, "n HOURS (1 to 24), an ACT each: STREETS (bits) that are AWAKE then.");
        Run.town("d0,0;t1,0;t20,0;t2,0;t0,0;r0;").then("""
            hours(1) = 9 count(8) = 1 hours(1) = 13 count(8) = 2 undo() = 1 count(7) = 9
            hours(19) = 15 count(8) = 20 count(3) = 20 hours(24) = 15 count(8) = 24 count(3) = 44""");
        Run.town("d0,0;t20,0;r0;").then("hours(24) = 1 count(3) = 24 count(8) = 24");
    }

    private static void hoursRefuse() {
        Doc.says(9, "BAD; STATE: no TOWN (ahead of BAD); FULL: beyond HOUR 9999.");
        Bounds.hold("hours", new int[] {1}, 0, 1, 24);
        Run.fresh().then("hours(1) = STATE hours(0) = STATE hours(25) = STATE hours(LEAST) = STATE");
        Run run = Run.town("d0,1;a1,9;t20,60;r0;");
        for (int i = 0; i < 415; i++) {
            run.call("hours", 24);
        }
        run.then("""
            count(3) = 9960 hours(24) = 2 count(3) = 9984 undo() = 23 undo() = 22 lull(1, 20) count(3) = 9982
            hours(18) = FULL hours(24) = FULL hours(25) = BAD hours(0) = BAD count(3) = 9982 count(8) = 23
            street(1, 0) = 20 street(1, 1) = 40 hours(17) = 0 count(3) = 9999 street(1, 0) = 3
            hours(1) = FULL hours(24) = FULL count(3) = 9999 street(1, 0) = 3 undo() = 23
            count(3) = 9998 hours(2) = FULL hours(1) = 0 count(3) = 9999 later(1, 0) = 0 later(3, 0) = 2""");
    }

    private static void beatMoves() {
        Doc.says(10, "A BEAT is another STREET: which it was.");
        Run.town(THREE).then("""
            beat(0, 2) = 0 round(0) = 2 round(1) = 2 beat(1, 0) = 2 round(1) = 0 beat(0, 1) = 2
            undo() = 2 round(0) = 2 undo() = 1 round(1) = 2 undo() = 0 round(0) = 0""");
        Run.town("d0,0;" + "a1,0;".repeat(8) + "r0;".repeat(8)).then("beat(7, 7) = 0 round(7) = 7 beat(7, 0) = 7");
    }

    private static void beatRefuses() {
        Doc.says(10, "BAD; STATE: it is that.");
        Bounds.hold("beat", new int[] {0, 1}, 0, 0, 1);
        Bounds.hold("beat", new int[] {0, 1}, 1, 0, 2);
        Run.town(THREE).then("""
            beat(0, 0) = STATE beat(1, 2) = STATE count(8) = 0 beat(1, 1) = 2 beat(1, 1) = STATE
            beat(2, 0) = BAD beat(0, 3) = BAD count(8) = 1""");
        Run.fresh().then("beat(0, 0) = BAD");
    }

    private static void reachChanges() {
        Doc.says(11, "REACH is v (0 to 3): what it was.");
        Run.town(THREE).then("""
            street(1, 2) = 1 reach(0) = 1 count(4) = 0 street(1, 2) = 0 reach(3) = 0 count(4) = 3
            street(2, 2) = 1 reach(3) = 3 count(4) = 3 undo() count(4) = 3 undo() count(4) = 0""");
    }

    private static void reachRefuses() {
        Doc.says(11, "BAD; STATE: no TOWN (ahead of BAD).");
        Bounds.hold("reach", new int[] {0}, 0, 0, 3);
        Run.fresh().then("reach(0) = STATE reach(4) = STATE reach(-1) = STATE");
    }

    private static void lullDeepens() {
        Doc.says(12, "Lulled by n (1 to 20): DEEP then (20 at most). BAD.");
        Run.town("d0,0;a0,0;a5,0;r0;").then("""
            lull(0, 1) = 1 count(7) = 0 lull(0, 18) = 19 lull(0, 1) = 20 lull(0, 1) = 20 lull(1, 20) = 20
            street(0, 0) = 20 street(1, 0) = 20 count(8) = 5 undo() street(1, 0) = 5 undo() undo()
            street(0, 0) = 19 undo() undo() = 0 street(0, 0) = 0 lull(0, 20) = 20""");
        Bounds.hold("lull", new int[] {0, 1}, 0, 0, 2);
        Bounds.hold("lull", new int[] {0, 1}, 1, 1, 20);
    }

    private static void bringFills() {
        Doc.says(13, "n of LOOT (1 to 60) are brought: how much there is then (60 at most). BAD.");
        Run.town("d0,0;a0,0;a5,7;r0;").then("""
            bring(0, 1) = 1 bring(0, 58) = 59 bring(0, 1) = 60 bring(0, 1) = 60 bring(1, 60) = 60
            street(0, 1) = 60 street(1, 1) = 60 count(8) = 5 undo() street(1, 1) = 7 undo() undo()
            street(0, 1) = 59 undo() undo() = 0 street(0, 1) = 0 bring(0, 60) = 60 count(6) = 0""");
        Bounds.hold("bring", new int[] {0, 1}, 0, 0, 2);
        Bounds.hold("bring", new int[] {0, 1}, 1, 1, 60);
    }

    private static void undoTakesBack() {
        Doc.says(14, "The latest ACT is undone: how many can be undone yet.");
        Run.town("d0,4;a1,9;a5,9;p3,9;r1;r0;").then("""
            hours(1) = 5 street(0, 1) = 5 street(2, 1) = 5 count(6) = 8 hours(1) = 4
            undo() = 1 count(3) = 1 count(6) = 8 count(7) = 5 undo() = 0
            count(3) = 0 count(6) = 0 count(7) = 0 street(0, 0) = 1 street(0, 1) = 9 street(1, 0) = 5
            street(2, 0) = 3 street(2, 1) = 9 lull(0, 3) bring(1, 9) beat(0, 2) reach(2)
            undo() = 3 count(4) = 0 undo() = 2 round(0) = 1 undo() = 1 street(1, 1) = 9
            undo() = 0 street(0, 0) = 1 hours(1) = 5 undo() = 0""");
    }

    private static void undoRefuses() {
        Doc.says(14, "STATE: none.");
        Run.fresh().then("undo() = STATE");
        Run.town(THREE).then("""
            undo() = STATE hours(1) undo() = 0 undo() = STATE count(3) = 0 hours(1) image(0) restore(0)
            undo() = STATE count(3) = 1 hours(0) = BAD beat(0, 0) = STATE lull(9, 1) = BAD undo() = STATE""");
    }

    private static void imageKeeps() {
        Doc.says(29, "An IMAGE (0, 1) is kept of the TOWN: 1.");
        Run.town(THREE).then("""
            image(0) = 1 hours(1) image(1) = 1 hours(1) count(8) = 2 count(3) = 2
            restore(0) = 1 count(3) = 0 restore(1) = 1 count(3) = 1 hours(5) image(0) = 1 restore(1) count(3) = 1
            restore(0) count(3) = 6""");
    }

    private static void imageRefuses() {
        Doc.says(29, "BAD; STATE: no TOWN.");
        Bounds.hold("image", new int[] {0}, 0, 0, 1);
        Run.fresh().then("image(0) = STATE image(1) = STATE image(2) = BAD image(-1) = BAD");
    }

    private static void restoreBringsBack() {
        Doc.says(30, "The TOWN is as an IMAGE kept it (no ACT can be undone then): 1.");
        Run.town("d1,4;a5,20;n3,9;g8,30;r0;r2;").then("""
            hours(1) count(6) = 4 image(0) = 1
            hours(2) reach(3) beat(1, 1) lull(0, 9) bring(1, 50) restore(0) = 1
            count(1) = 3 count(2) = 2 count(3) = 1 count(4) = 1 count(5) = 4 count(6) = 4 count(7) = 0 count(8) = 0
            undo() = STATE round(0) = 0 round(1) = 2 kind(1) = 2
            street(0, 0) = 7 street(0, 1) = 20 street(1, 0) = 7 street(1, 1) = 9 street(2, 0) = 5
            street(2, 1) = 26 "d0,0;p1,1;r0;" town() = 1 count(1) = 1 restore(0) = 1 count(1) = 3
            kind(2) = 3 count(3) = 1 hours(1) undo() = 0 restore(0) = 1 count(3) = 1 street(2, 0) = 5""");
    }

    private static void restoreRefuses() {
        Doc.says(30, "BAD; STATE: none was kept.");
        Bounds.hold("restore", new int[] {0}, 0, 0, 1);
        Run.town(THREE).then("""
            restore(0) = STATE restore(1) = STATE hours(1) image(1) restore(0) = STATE count(8) = 1
            restore(2) = BAD count(8) = 1 restore(1) = 1 count(8) = 0""");
        Run.fresh().then("restore(0) = STATE restore(1) = STATE restore(2) = BAD");
    }

    private static void countTells() {
        Doc.says(35, "How many: 0 ROWS, 1 STREETS, 2 BEATS, 3 HOUR, 4 REACH, 5 THIEVES, 6 ROBBED,"
            + " 7 STREETS (bits) that are AWAKE, 8 ACTS that can be undone, 9 bytes on the tape. BAD.");
        Run.town("d2,7;a0,20;a3,9;a8,30;a8,30;r0;r2;r1;").then("""
            row(0, 0, 0) row(5, 1, 4) hours(1) lull(3, 1) "abcde"
            count(0) = 2 count(1) = 4 count(2) = 3 count(3) = 1 count(4) = 2 count(5) = 7 count(6) = 7
            count(7) = 0 count(8) = 2 count(9) = 5 drop(0) count(0) = 1 undo() count(8) = 1
            undo() count(7) = 1 count(6) = 0 count(3) = 0""");
        Bounds.hold("count", new int[] {0}, 0, 0, 9);
    }
}
