/** Promises 9 to 16 and 35: hours, acts, undoing them, and what is there. */
public final class ActsTest {
    private static final String FIVE = "d1,3;a5,20;n3,9;g8,30;t6,14;p4,0;r0;r2;r4;";

    public static void main(String[] args) {
        kindsSleepByTheDrum();
        nurseriesGoByFours();
        thievesWorkWhereItIsQuiet();
        hoursAreRefused();
        beatsAndReach();
        lullsAndLoot();
        actsAreUndone();
        oldActsAreForgotten();
        theLastHour();
        Due.end();
    }

    private static void kindsSleepByTheDrum() {
        String[] sorts = {"a", "n", "g", "t", "p"};
        int[] heard = {12, 14, 12, 9, 9};
        int[] quiet = {9, 9, 7, 9, 0};
        for (int k = 0; k < sorts.length; k++) {
            DrumPeace x = Due.town("d0,0;" + sorts[k] + "10,5;" + sorts[k] + "10,5;r0;r1;");
            Due.due(sorts[k] + " hears", x.street(0, 2), 1);
            Due.due(sorts[k] + " does not", x.street(1, 2), 0);
            Due.due(sorts[k] + " will be", x.street(0, 3), heard[k]);
            Due.due(sorts[k] + " in quiet will be", x.street(1, 3), quiet[k]);
            Due.due("none is awake", x.hours(1), k == 4 ? 2 : 0);
            Due.due(sorts[k] + " is", x.street(0, 0), heard[k]);
            Due.due(sorts[k] + " in quiet is", x.street(1, 0), quiet[k]);
            Due.due("the next beat", x.street(0, 2) + 2 * x.street(1, 2), 2);
        }
        edgesOfDeep();
    }

    private static void edgesOfDeep() {
        DrumPeace x = Due.town("d0,0;a19,1;n17,1;g2,1;t0,1;p0,1;r0;r1;");
        x.reach(1);
        x.hours(1);
        int[] deeps = {20, 20, 0, 0, 0};
        for (int s = 0; s < 5; s++) {
            Due.due("deep " + s, x.street(s, 0), deeps[s]);
        }
        Due.due("awake", x.count(7), 0b11100);
    }

    private static void nurseriesGoByFours() {
        DrumPeace x = Due.town("d0,0;n0,0;r0;");
        int[] deeps = {4, 6, 8, 10, 14, 16, 18, 20, 20};
        for (int h = 0; h < deeps.length; h++) {
            Due.due("foretold at " + h, x.street(0, 3), deeps[h]);
            x.hours(1);
            Due.due("behind " + h, x.street(0, 0), deeps[h]);
        }
    }

    private static void thievesWorkWhereItIsQuiet() {
        DrumPeace x = Due.town("d0,4;a5,20;a5,6;a0,9;t1,7;r0;");
        int[] taken = {0, 4, 0, 4};
        for (int s = 0; s < 4; s++) {
            Due.due("will be robbed in " + s, x.street(s, 4), taken[s]);
        }
        Due.due("awake", x.hours(1), 0b1100);
        Due.due("robbed", x.count(6), 8);
        int[] loot = {20, 2, 9, 3};
        for (int s = 0; s < 4; s++) {
            Due.due("loot " + s, x.street(s, 1), loot[s]);
        }
        Due.due("what is left", x.street(1, 4), 2);
        Due.due("who is awake is not robbed", x.street(3, 4), 0);
        x.hours(1);
        Due.due("robbed", x.count(6), 10);
        Due.due("hour", x.count(3), 2);
        Due.due("no street 4", x.street(4, 0), DrumPeace.BAD);
        Due.due("no street -1", x.street(-1, 0), DrumPeace.BAD);
        Due.due("what 5", x.street(0, 5), DrumPeace.BAD);
        Due.due("what -1", x.street(0, -1), DrumPeace.BAD);
        Due.due("count -1", x.count(-1), DrumPeace.BAD);
        Due.due("count 10", x.count(10), DrumPeace.BAD);
        Due.due("no beat 1", x.round(1), DrumPeace.BAD);
        Due.due("no beat -1", x.round(-1), DrumPeace.BAD);
    }

    private static void hoursAreRefused() {
        DrumPeace x = new DrumPeace();
        Due.due("no town ahead of BAD", x.hours(0), DrumPeace.STATE);
        x = Due.town(FIVE);
        Due.due("none", x.hours(0), DrumPeace.BAD);
        Due.due("25", x.hours(25), DrumPeace.BAD);
        Due.due("most", x.hours(Integer.MAX_VALUE), DrumPeace.BAD);
        Due.due("least", x.hours(Integer.MIN_VALUE), DrumPeace.BAD);
        Due.due("hour", x.count(3), 0);
        Due.due("24", x.hours(24), 0b11100);
        Due.due("hour", x.count(3), 24);
        Due.due("acts", x.count(8), 24);
    }

    private static void beatsAndReach() {
        DrumPeace x = Due.town(FIVE);
        Due.due("beat", x.beat(1, 3), 2);
        Due.due("round", x.round(1), 3);
        Due.due("it is that", x.beat(1, 3), DrumPeace.STATE);
        Due.due("no beat 3", x.beat(3, 0), DrumPeace.BAD);
        Due.due("no beat -1", x.beat(-1, 0), DrumPeace.BAD);
        Due.due("no street 5", x.beat(0, 5), DrumPeace.BAD);
        Due.due("no street -1", x.beat(0, -1), DrumPeace.BAD);
        Due.due("acts", x.count(8), 1);
        Due.due("reach", x.reach(3), 1);
        Due.due("is 3", x.count(4), 3);
        Due.due("heard in 3", x.street(3, 2), 1);
        Due.due("not in 4", x.street(4, 2), 0);
        Due.due("reach 0", x.reach(0), 3);
        Due.due("reach 0 again is an act", x.reach(0), 0);
        Due.due("acts", x.count(8), 4);
        Due.due("reach 4", x.reach(4), DrumPeace.BAD);
        Due.due("reach -1", x.reach(-1), DrumPeace.BAD);
        Due.due("no town ahead of BAD", new DrumPeace().reach(9), DrumPeace.STATE);
        Due.due("no town, no beat", new DrumPeace().beat(0, 0), DrumPeace.BAD);
    }

    private static void lullsAndLoot() {
        DrumPeace x = Due.town(FIVE);
        Due.due("lull", x.lull(0, 1), 6);
        Due.due("lull to the most", x.lull(0, 14), 20);
        Due.due("lull beyond", x.lull(0, 20), 20);
        Due.due("deep", x.street(0, 0), 20);
        Due.due("bring", x.bring(4, 1), 1);
        Due.due("bring to the most", x.bring(4, 59), 60);
        Due.due("bring beyond", x.bring(4, 60), 60);
        Due.due("loot", x.street(4, 1), 60);
        Due.due("acts", x.count(8), 6);
        Due.due("lull 0", x.lull(0, 0), DrumPeace.BAD);
        Due.due("lull 21", x.lull(0, 21), DrumPeace.BAD);
        Due.due("lull in street 5", x.lull(5, 1), DrumPeace.BAD);
        Due.due("lull in street -1", x.lull(-1, 1), DrumPeace.BAD);
        Due.due("bring 0", x.bring(0, 0), DrumPeace.BAD);
        Due.due("bring 61", x.bring(0, 61), DrumPeace.BAD);
        Due.due("bring to street 5", x.bring(5, 1), DrumPeace.BAD);
        Due.due("bring to street -1", x.bring(-1, 1), DrumPeace.BAD);
        Due.due("acts", x.count(8), 6);
    }

    private static void actsAreUndone() {
        DrumPeace x = Due.town(FIVE);
        Due.due("none", x.undo(), DrumPeace.STATE);
        x.beat(0, 3);
        x.reach(2);
        x.lull(1, 9);
        x.bring(4, 7);
        x.hours(2);
        Due.due("an hour", x.undo(), 5);
        Due.due("hour", x.count(3), 1);
        Due.due("an hour", x.undo(), 4);
        Due.due("hour", x.count(3), 0);
        Due.due("robbed", x.count(6), 0);
        Due.due("loot as it was", x.street(0, 1), 20);
        Due.due("deep as it was", x.street(2, 0), 8);
        Due.due("what was brought is there", x.street(4, 1), 7);
        Due.due("loot", x.undo(), 3);
        Due.due("loot", x.street(4, 1), 0);
        Due.due("lulled", x.street(1, 0), 12);
        Due.due("lull", x.undo(), 2);
        Due.due("deep", x.street(1, 0), 3);
        Due.due("reach", x.undo(), 1);
        Due.due("reach", x.count(4), 1);
        Due.due("beat", x.undo(), 0);
        Due.due("round", x.round(0), 0);
        Due.due("none", x.undo(), DrumPeace.STATE);
    }

    private static void oldActsAreForgotten() {
        DrumPeace x = Due.town(FIVE);
        x.reach(3);
        x.hours(20);
        x.hours(7);
        Due.due("acts", x.count(8), 24);
        for (int left = 23; left >= 0; left--) {
            Due.due("undo", x.undo(), left);
        }
        Due.due("forgotten", x.undo(), DrumPeace.STATE);
        Due.due("hour", x.count(3), 3);
        Due.due("reach", x.count(4), 3);
        x.hours(1);
        Due.due("kept anew", x.undo(), 0);
        Due.due("hour", x.count(3), 3);
    }

    private static void theLastHour() {
        DrumPeace x = Due.town("d0,0;a1,0;r0;");
        for (int i = 0; i < 416; i++) {
            x.hours(24);
        }
        Due.due("hour", x.count(3), 9984);
        Due.due("beyond", x.hours(16), DrumPeace.FULL);
        Due.due("BAD ahead of FULL", x.hours(25), DrumPeace.BAD);
        Due.due("hour", x.count(3), 9984);
        Due.due("to the last", x.hours(15), 0);
        Due.due("hour", x.count(3), 9999);
        Due.due("no more", x.hours(1), DrumPeace.FULL);
        Due.due("foretold beyond it", x.ahead(0, 60, 0), 20);
    }
}
