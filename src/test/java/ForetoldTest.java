/** Promises 17 to 28: what is foretold, searched and guessed; nothing of it changes the town. */
public final class ForetoldTest {
    private static final String FIVE = "d1,3;a5,20;n3,9;g8,30;t6,14;p4,0;r0;r2;r4;";
    private static final int BAD = DrumPeace.BAD, STATE = DrumPeace.STATE, NONE = DrumPeace.NONE;

    public static void main(String[] args) {
        foretoldIsWhatComes();
        awakenings();
        tunes();
        tunesByTies();
        shifts();
        covers();
        spreads();
        taxes();
        rowsFit();
        guessesTurnWithTheRound();
        sticksAreDropped();
        yearsAreDrawn();
        nothingChanges();
        Due.end();
    }

    private static void foretoldIsWhatComes() {
        DrumPeace x = Due.town(FIVE);
        DrumPeace then = Due.town(FIVE);
        for (int d = 0; d <= 60; d++) {
            for (int s = 0; s < 5; s++) {
                Due.due("deep of " + s + " in " + d, x.ahead(s, d, 0), then.street(s, 0));
                if (s < 2) {
                    Due.due("loot of " + s + " in " + d, x.ahead(s, d, 1), then.street(s, 1));
                }
            }
            then.hours(1);
        }
        DrumPeace y = Due.town(FIVE);
        then = Due.town(FIVE);
        y.hours(3);
        then.hours(3);
        for (int d = 0; d <= 60; d++) {
            Due.due("awake in " + d, y.later(d, 0), then.count(7));
            Due.due("robbed in " + d, y.later(d, 1), then.count(6));
            then.hours(1);
        }
        foretellingIsRefused(y);
    }

    private static void foretellingIsRefused(DrumPeace x) {
        Due.due("ahead -1", x.ahead(0, -1, 0), BAD);
        Due.due("ahead 61", x.ahead(0, 61, 0), BAD);
        Due.due("ahead what 2", x.ahead(0, 0, 2), BAD);
        Due.due("ahead what -1", x.ahead(0, 0, -1), BAD);
        Due.due("ahead of street 5", x.ahead(5, 0, 0), BAD);
        Due.due("ahead of street -1", x.ahead(-1, 0, 0), BAD);
        Due.due("later -1", x.later(-1, 0), BAD);
        Due.due("later 61", x.later(61, 0), BAD);
        Due.due("later what 2", x.later(0, 2), BAD);
        Due.due("later what -1", x.later(0, -1), BAD);
        Due.due("later, no town ahead of BAD", new DrumPeace().later(61, 2), STATE);
        Due.due("ahead, no town", new DrumPeace().ahead(0, 0, 0), BAD);
    }

    private static void awakenings() {
        DrumPeace x = Due.town("d0,0;a20,0;t20,0;p5,0;g9,0;n0,0;r4;");
        int[] wakes = {20, 20, 1, 3, 0};
        for (int s = 0; s < 5; s++) {
            Due.due("wakes " + s, x.wakes(s), wakes[s]);
        }
        Due.due("the nursery sleeps by then", x.alarm(), NONE);
        x.hours(1);
        Due.due("never", x.wakes(4), NONE);
        x = Due.town("d0,0;t20,0;t7,0;p20,0;r2;");
        Due.due("alarm", x.alarm(), 20);
        x = Due.town("d0,0;t0,0;p0,0;r0;");
        Due.due("alarm at once", x.alarm(), 0);
        Due.due("wakes, no town", new DrumPeace().wakes(0), BAD);
        Due.due("wakes -1", x.wakes(-1), BAD);
        Due.due("wakes 2", x.wakes(2), BAD);
        Due.due("alarm, no town", new DrumPeace().alarm(), STATE);
        // 20, heard in the first hour and not above 20, then three less in each of seven.
        x = Due.town("d0,0;g20,0;a0,0;r0;r1;r1;r1;r1;r1;r1;r1;");
        Due.due("garrison", x.wakes(0), 8);
        x = Due.town("d0,0;a15,0;t1,0;r0;r1;r1;r1;");
        Due.due("wakes at the last", x.wakes(0), 60);
        Due.due("alarm at the last", x.alarm(), 60);
        x.lull(0, 1);
        Due.due("wakes too late", x.wakes(0), NONE);
        Due.due("alarm too late", x.alarm(), NONE);
    }

    private static void tunes() {
        DrumPeace x = Due.town(FIVE);
        Due.due("how much", x.tune(2, 6, -1), 14);
        Due.due("beat 0", x.tune(2, 6, 0), 1);
        Due.due("beat 1", x.tune(2, 6, 1), 1);
        Due.due("not so many", x.tune(2, 6, 2), NONE);
        Due.due("by far", x.tune(2, 6, Integer.MAX_VALUE), NONE);
        int[][] bad = {{0, 1, 0}, {5, 1, 0}, {1, 0, 0}, {1, 13, 0}, {1, 1, -2}, {0, 1, 9}};
        for (int[] b : bad) {
            Due.due("tune of " + b[0] + ", " + b[1] + ", " + b[2], x.tune(b[0], b[1], b[2]), BAD);
        }
        Due.due("no town ahead of BAD", new DrumPeace().tune(0, 0, -9), STATE);
        // From hour 1 on a round of two begins with its beat 1.
        x = Due.town("d0,5;t20,0;t20,50;t20,9;r0;");
        x.hours(1);
        Due.due("robbed so far", x.count(6), 10);
        Due.due("one hour: only what is more", x.tune(2, 1, -1), 4);
        Due.due("a beat that is not come to is the first street", x.tune(2, 1, 0), 0);
        Due.due("the beat of hour 1", x.tune(2, 1, 1), 1);
    }

    private static void tunesByTies() {
        // Nothing can be robbed: most streets sleep, of several the first round.
        DrumPeace x = Due.town("d0,0;t1,0;a1,0;a2,0;r0;");
        Due.due("nothing", x.tune(1, 1, -1), 0);
        Due.due("he keeps the one asleep that would wake", x.tune(1, 1, 0), 1);
        x = Due.town("d0,9;t9,0;t9,0;t9,0;r2;");
        Due.due("all the same: the first", x.tune(4, 12, 0) + x.tune(4, 12, 1) + x.tune(4, 12, 2)
                + x.tune(4, 12, 3), 0);
        // Less robbed is more than all the sleep: street 0 would stay asleep, street 2 has the one loot.
        x = Due.town("d0,1;a1,0;t9,0;t9,1;r0;");
        Due.due("robbed first", x.tune(1, 1, 0), 2);
        Due.due("how much", x.tune(1, 1, -1), 0);
        x = Due.town("d0,1;t1,0;t1,0;t1,0;t1,0;t1,0;t1,0;t1,0;t1,0;r0;");
        Due.due("all eight awake is nothing robbed", x.tune(1, 1, -1), 0);
    }

    private static void shifts() {
        DrumPeace x = Due.town(FIVE);
        Due.due("which", x.shift(6, 0), 21);
        Due.due("how much", x.shift(6, 1), 24);
        Due.due("n 0", x.shift(0, 0), BAD);
        Due.due("n 31", x.shift(31, 0), BAD);
        Due.due("what 2", x.shift(1, 2), BAD);
        Due.due("what -1", x.shift(1, -1), BAD);
        Due.due("no town ahead of BAD", new DrumPeace().shift(0, 2), STATE);
        x = Due.town("d0,3;t9,3;t9,3;r0;");
        Due.due("none is better", x.shift(1, 0), NONE);
        Due.due("how much of none", x.shift(1, 1), NONE);
        x = Due.town("d0,3;t9,0;t9,3;t9,3;r0;r0;");
        x.hours(1);
        x.bring(1, 3);
        x.bring(2, 3);
        Due.due("of two streets the first, of the beat of the hour", x.shift(1, 0), 11);
        Due.due("only what is more", x.shift(1, 1), 3);
        x.beat(1, 1);
        Due.due("none is better than what is more as it is", x.shift(1, 0), NONE);
        x = Due.town("d0,3;t20,60;t20,0;r1;");
        Due.due("the first beat, the first street", x.shift(30, 0), 0);
        Due.due("nothing is robbed", x.shift(30, 1), 0);
        // Where nobody hears, as little would be robbed, and sooner in order; but there is no such street.
        x = Due.town("d0,6;n0,60;g0,60;r1;r1;r0;r0;");
        Due.due("only to a street that there is", x.shift(4, 0), 10);
        Due.due("how much", x.shift(4, 1), 6);
    }

    private static void covers() {
        int[] many = {8, 3, 2, 2};
        int[] which = {0b11111111, 0b01001001, 0b00100001, 0b00010001};
        DrumPeace x = Due.town("d0,0;a1,1;a1,1;a1,1;a1,1;a1,1;a1,1;a1,1;a1,1;r0;");
        for (int v = 0; v <= 3; v++) {
            x.reach(v);
            Due.due("how many by reach " + v, x.cover(0), many[v]);
            Due.due("which by reach " + v, x.cover(1), which[v]);
        }
        Due.due("what 2", x.cover(2), BAD);
        Due.due("what -1", x.cover(-1), BAD);
        Due.due("no town ahead of BAD", new DrumPeace().cover(2), STATE);
        x = Due.town("d0,0;p0,0;r0;");
        Due.due("one street", x.cover(1), 1);
        Due.due("one", x.cover(0), 1);
    }

    private static void spreads() {
        DrumPeace x = Due.town("d3,0;a1,0;a1,0;a1,0;a1,0;a1,0;t1,0;a9,0;r0;");
        int[] want = {0, 1, 2, 3, NONE, NONE, 0};
        for (int s = 0; s < want.length; s++) {
            Due.due("spread " + s, x.spread(s, 1), want[s]);
        }
        Due.due("in 9 hours", x.spread(6, 9), NONE);
        Due.due("in 8 hours", x.spread(6, 8), 0);
        Due.due("in 30 hours", x.spread(3, 30), 3);
        Due.due("n 0", x.spread(0, 0), BAD);
        Due.due("n 31", x.spread(0, 31), BAD);
        Due.due("street 7", x.spread(7, 1), BAD);
        Due.due("street -1", x.spread(-1, 1), BAD);
        Due.due("reach stays", x.count(4), 3);
    }

    private static void taxes() {
        DrumPeace x = Due.town("d0,0;a1,0;a1,1;a1,1;a1,0;a1,1;r0;");
        int[][] want = {{0, 0, 0, 0, 0}, {0, 1, 0, 0, 0}, {0, 1, 1, 0, 0}, {0, 1, 1, 0, 1}, {0, 2, 1, 0, 1}};
        for (int n = 0; n < want.length; n++) {
            for (int s = 0; s < 5; s++) {
                Due.due("skins of " + s + ", " + n, x.skins(s, n), want[n][s]);
            }
        }
        Due.due("999", x.skins(4, 999), 333);
        Due.due("1000", x.skins(4, 1000), BAD);
        Due.due("-1", x.skins(4, -1), BAD);
        Due.due("street 5", x.skins(5, 1), BAD);
        Due.due("street -1", x.skins(-1, 1), BAD);
        x = Due.town("d0,0;a1,0;a1,0;r0;");
        Due.due("no loot at all", x.skins(0, 999), 0);
    }

    private static void rowsFit() {
        DrumPeace x = Due.town("d0,0;a10,0;n10,0;g10,0;t10,0;p10,0;r1;");
        x.row(0, 2, 14);
        x.set(0, 0, 9);
        x.set(0, 1, 8);
        Due.due("sorts in quiet", x.fits(0, 0, 0, 2, 0), 1 << 1 | 1 << 2 | 1 << 4);
        Due.due("deeps", x.fits(0, 0, 0, 2, 1), 1 << 10);
        Due.due("reaches", x.fits(0, 0, 0, 2, 2), 1);
        Due.due("places", x.fits(0, 0, 0, 2, 3), 0b11110);
        Due.due("from the second on", x.fits(0, 0, 1, 1, 1), 1 << 9);
        x.set(0, 2, 0);
        Due.due("a pump, and what can be 0", x.fits(2, 0, 2, 1, 0), 1 << 5);
        Due.due("deeps that come to 0", x.fits(2, 0, 2, 1, 1), 0b1111);
        x.set(0, 2, 21);
        Due.due("nothing sleeps so deep", x.fits(2, 0, 2, 1, 1), 0);
        fitsAreRefused(x);
    }

    private static void fitsAreRefused(DrumPeace x) {
        Due.due("12 from 2 on", x.fits(0, 0, 2, 12, 0) >= 0 ? 1 : 0, 1);
        Due.due("12 from 3 on", x.fits(0, 0, 3, 12, 0), Due.PLACE);
        Due.due("from -1 on", x.fits(0, 0, -1, 1, 0), Due.PLACE);
        Due.due("from the most on", x.fits(0, 0, Integer.MAX_VALUE, 12, 0), Due.PLACE);
        Due.due("a missing row", x.fits(0, 1, 99, 1, 0), Due.NULL);
        Due.due("status", x.status(), 1);
        Due.due("n 0", x.fits(0, 0, 0, 0, 0), BAD);
        Due.due("n 13", x.fits(0, 0, 0, 13, 0), BAD);
        Due.due("what 4", x.fits(0, 0, 0, 1, 4), BAD);
        Due.due("what -1", x.fits(0, 0, 0, 1, -1), BAD);
        Due.due("street 5", x.fits(5, 0, 0, 1, 0), BAD);
        Due.due("row 8", x.fits(0, 8, 0, 1, 0), BAD);
        Due.due("row -1", x.fits(0, -1, 0, 1, 0), BAD);
        Due.due("BAD ahead of NULL", x.fits(0, 1, 0, 13, 0), BAD);
    }

    private static void guessesTurnWithTheRound() {
        // In a round of two the beat of this hour comes again in the third.
        DrumPeace x = Due.town("d0,0;a5,0;a5,0;a5,0;r2;r0;");
        x.hours(1);
        x.row(0, 0, 3);
        int[] deeps = {6, 5, 7};
        for (int i = 0; i < 3; i++) {
            x.set(0, i, deeps[i]);
        }
        Due.due("he was here", x.fits(0, 0, 0, 3, 3), 1);
        int[] others = {3, 2, 1};
        for (int i = 0; i < 3; i++) {
            x.set(0, i, others[i]);
        }
        Due.due("he was elsewhere", x.fits(0, 0, 0, 3, 3), 0b110);
        Due.due("round stays", x.round(1), 0);
    }

    private static void fraction(DrumPeace x, int street, int n, int c, int above, int below) {
        String call = "drops(" + street + ", " + n + ", " + c + ")";
        Due.due(call + " above", x.drops(street, n, c, 0), above);
        Due.due(call + " below", x.drops(street, n, c, 1), below);
    }

    private static void sticksAreDropped() {
        DrumPeace x = Due.town("d0,0;a1,0;p9,0;t2,0;a0,0;g20,0;r0;");
        fraction(x, 0, 0, 5, 0, 1);
        fraction(x, 3, 0, 5, 1, 1);
        fraction(x, 0, 1, 3, 3, 10);
        fraction(x, 0, 1, 5, 1, 2);
        fraction(x, 0, 1, 0, 0, 1);
        fraction(x, 0, 1, 10, 1, 1);
        fraction(x, 0, 2, 1, 1, 100);
        fraction(x, 1, 1, 0, 1, 1);
        fraction(x, 2, 1, 7, 0, 1);
        fraction(x, 2, 2, 7, 1, 1);
        fraction(x, 4, 7, 1, 1, 1);
        fraction(x, 4, 6, 1, 0, 1);
        // A pump sleeps on only if the sticks fall in none of the hours: 0.9 to the 8th.
        x = Due.town("d0,0;p9,0;r0;");
        fraction(x, 0, 8, 1, 56953279, 100000000);
        Due.due("n 9", x.drops(0, 9, 1, 0), BAD);
        Due.due("n -1", x.drops(0, -1, 1, 0), BAD);
        Due.due("c 11", x.drops(0, 1, 11, 0), BAD);
        Due.due("c -1", x.drops(0, 1, -1, 0), BAD);
        Due.due("what 2", x.drops(0, 1, 1, 2), BAD);
        Due.due("what -1", x.drops(0, 1, 1, -1), BAD);
        Due.due("street 1", x.drops(1, 1, 1, 0), BAD);
        Due.due("street -1", x.drops(-1, 1, 1, 0), BAD);
    }

    private static void yearsAreDrawn() {
        DrumPeace x = Due.town(FIVE);
        Due.due("none", x.drawn(0, 1, 0), 0);
        Due.due("20 by 7", x.drawn(20, 7, 0), 69);
        Due.due("awake", x.drawn(20, 7, 1), 2);
        Due.due("60 by 9", x.drawn(60, 9, 0), 110);
        x.hours(4);
        Due.due("robbed before", x.count(6) > 0 ? 1 : 0, 1);
        Due.due("none, only what is more", x.drawn(0, 1, 0), 0);
        // 3 * 16807 leaves 0 by 3: beat 0 of 3 is street 1 of 5; 5 * 16807 leaves 0 by 5, not by 3: loot.
        x = Due.town("d0,9;a9,5;a9,5;a9,5;a9,5;a9,5;r0;r2;r4;");
        Due.due("a beat moves", x.drawn(1, 3, 0), 20);
        x = Due.town("d0,9;a9,5;a9,9;r0;r0;");
        Due.due("another beat than that of the hour moves", x.drawn(1, 3, 0), 9);
        x = Due.town("d0,9;a9,0;a9,0;a9,0;a9,0;a9,0;r1;");
        Due.due("loot comes", x.drawn(1, 5, 0), 9);
        Due.due("n 61", x.drawn(61, 1, 0), BAD);
        Due.due("n -1", x.drawn(-1, 1, 0), BAD);
        Due.due("seed 0", x.drawn(1, 0, 0), BAD);
        Due.due("seed 1000000", x.drawn(1, 1000000, 0), BAD);
        Due.due("seed 999999", x.drawn(1, 999999, 0) >= 0 ? 1 : 0, 1);
        Due.due("what 2", x.drawn(1, 1, 2), BAD);
        Due.due("what -1", x.drawn(1, 1, -1), BAD);
        Due.due("no town ahead of BAD", new DrumPeace().drawn(61, 0, 2), STATE);
    }

    private static void nothingChanges() {
        DrumPeace x = Due.town(FIVE);
        DrumPeace same = Due.town(FIVE);
        x.hours(5);
        same.hours(5);
        x.row(0, 0, 12);
        same.row(0, 0, 12);
        x.ahead(0, 60, 0);
        x.later(60, 1);
        x.wakes(0);
        x.alarm();
        x.tune(4, 12, 0);
        x.shift(30, 0);
        x.cover(1);
        x.spread(0, 30);
        x.skins(0, 999);
        for (int what = 0; what < 4; what++) {
            x.fits(0, 0, 0, 12, what);
        }
        x.drops(0, 8, 5, 0);
        x.drawn(60, 77, 0);
        for (int what = 0; what <= 9; what++) {
            Due.due("count " + what, x.count(what), same.count(what));
        }
        for (int s = 0; s < 5; s++) {
            for (int what = 0; what <= 4; what++) {
                Due.due("street " + s + " " + what, x.street(s, what), same.street(s, what));
            }
        }
        for (int b = 0; b < 3; b++) {
            Due.due("round " + b, x.round(b), same.round(b));
        }
    }
}
