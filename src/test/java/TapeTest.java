/** Promises 6 to 8: the tape, the town that is read from it, faults. */
public final class TapeTest {
    private static final String EIGHT = "d1,1;a1,1;a1,1;a1,1;a1,1;a1,1;a1,1;a1,1;a1,1;";

    public static void main(String[] args) {
        bytesAreFed();
        townsAreRead();
        misplacedTokens();
        numbersNotAsTold();
        noRoom();
        allStaysBehindAFault();
        nothingIsReadBehindTheEnd();
        Due.end();
    }

    private static void bytesAreFed() {
        DrumPeace x = new DrumPeace();
        Due.due("feed(-1)", x.feed(-1), DrumPeace.BAD);
        Due.due("feed(256)", x.feed(256), DrumPeace.BAD);
        Due.due("feed(0)", x.feed(0), 1);
        Due.due("feed(255)", x.feed(255), 2);
        for (int i = 3; i <= 110; i++) {
            Due.due("feed", x.feed('a'), i);
        }
        Due.due("a byte too many", x.feed('a'), DrumPeace.FULL);
        Due.due("BAD ahead of FULL", x.feed(256), DrumPeace.BAD);
        Due.due("bytes", x.count(9), 110);
        Due.due("fault at 0", x.town(), -1000100);
        Due.due("the tape is empty", x.count(9), 0);
        Due.due("feed again", x.feed('a'), 1);
    }

    private static void townsAreRead() {
        DrumPeace x = new DrumPeace();
        Due.due("no fault yet", x.fault(), 0);
        Due.feed(x, "d02,09;n00,00;p20,60;g07,5;t1,05;a3,3;r04;r0;");
        Due.due("town", x.town(), 5);
        Due.due("no fault", x.fault(), 0);
        Due.due("tape", x.count(9), 0);
        int[] want = {0, 5, 2, 0, 2, 9, 0, 1, 0, 0};
        for (int what = 0; what < want.length; what++) {
            Due.due("count " + what, x.count(what), want[what]);
        }
        int[] kinds = {2, 5, 3, 4, 1};
        int[] deeps = {0, 20, 7, 1, 3};
        int[] loots = {0, 60, 5, 5, 3};
        for (int s = 0; s < 5; s++) {
            Due.due("kind " + s, x.kind(s), kinds[s]);
            Due.due("deep " + s, x.street(s, 0), deeps[s]);
            Due.due("loot " + s, x.street(s, 1), loots[s]);
        }
        Due.due("beat 0", x.round(0), 4);
        Due.due("beat 1", x.round(1), 0);
        anotherTownStandsInItsPlace(x);
    }

    private static void anotherTownStandsInItsPlace(DrumPeace x) {
        x.hours(3);
        Due.due("acts", x.count(8), 3);
        Due.feed(x, "d0,0;a1,2;r0;");
        Due.due("another", x.town(), 1);
        Due.due("hour", x.count(3), 0);
        Due.due("robbed", x.count(6), 0);
        Due.due("acts", x.count(8), 0);
        Due.due("undo", x.undo(), DrumPeace.STATE);
        Due.due("streets", x.count(1), 1);
        Due.due("beats", x.count(2), 1);
    }

    private static void faulty(String text, int place, int number) {
        DrumPeace x = new DrumPeace();
        Due.feed(x, text);
        Due.due("town of '" + text + "'", x.town(), -1000100 - place);
        Due.due("fault of '" + text + "'", x.fault(), number);
        Due.due("no town of '" + text + "'", x.count(1), 0);
    }

    private static void misplacedTokens() {
        faulty("", 0, 1);
        faulty("a1,1;", 0, 1);
        faulty("d", 1, 1);
        faulty("d,", 1, 1);
        faulty("dd", 1, 1);
        faulty("d1;", 2, 1);
        faulty("d111,1;", 1, 1);
        faulty("d1,1111;", 3, 1);
        faulty("d 1,1;", 1, 1);
        faulty("d-1,1;", 1, 1);
        faulty("D1,1;", 0, 1);
        faulty("d1,1,", 4, 1);
        faulty("d1,1;", 5, 1);
        faulty("d1,1;r0;", 5, 1);
        faulty("d1,1;b1,1;", 5, 1);
        faulty("d1,1;a1,1;", 10, 1);
        faulty("d1,1;a1,1;x", 10, 1);
        faulty("d1,1;a1,1;1", 10, 1);
        faulty("d1,1;a1,1;d1,1;", 10, 1);
        faulty("d1,1;a1,1;r", 11, 1);
        faulty("d1,1;a1,1;r;", 11, 1);
        faulty("d1,1;a1,1;r0", 12, 1);
        faulty("d1,1;a1,1;r0,", 12, 1);
        faulty("d1,1;a1,1;r000;", 11, 1);
        faulty("d1,1;a1,1;r0;a1,1;", 13, 1);
        faulty("d1,1;a1,1;r0;r", 14, 1);
        faulty("d1,1;a1,1;r0;\u00e9", 13, 1);
        faulty("d1,1;a1,1;r0;;", 13, 1);
        faulty("d1,1;a100,1;r0;", 6, 1);
        faulty("d1,1;a1 ,1;r0;", 7, 1);
    }

    private static void numbersNotAsTold() {
        faulty("d4,1;", 1, 2);
        faulty("d10,1;", 1, 2);
        faulty("d3,10;", 3, 2);
        faulty("d3,99", 3, 2);
        faulty("d1,1;a21,1;", 6, 2);
        faulty("d1,1;a20,61;", 9, 2);
        faulty("d1,1;a1,1;r1;", 11, 2);
        faulty("d1,1;a1,1;r99", 11, 2);
        faulty("d1,1;a1,1;n1,1;r1;r2;", 19, 2);
        faulty("d4", 1, 2);
    }

    private static void noRoom() {
        faulty(EIGHT + "a1,1;r0;", 45, 3);
        faulty(EIGHT + "p", 45, 3);
        faulty(EIGHT + "b", 45, 1);
        faulty(EIGHT, 45, 1);
        faulty(EIGHT + "r8;", 46, 2);
        faulty(EIGHT + "r0;r1;r2;r3;r4;r5;r6;r7;r0;", 69, 3);
        faulty(EIGHT + "r0;r1;r2;r3;r4;r5;r6;r7;a1,1;", 69, 1);
        DrumPeace x = new DrumPeace();
        Due.feed(x, EIGHT + "r0;r1;r2;r3;r4;r5;r6;r7;");
        Due.due("eight and eight", x.town(), 8);
        Due.due("beats", x.count(2), 8);
        Due.due("the last", x.round(7), 7);
    }

    private static void allStaysBehindAFault() {
        DrumPeace x = Due.town("d1,2;a5,20;t6,30;r1;");
        x.hours(2);
        Due.feed(x, "d3,9;p1,1;p1,1;p1,1;q");
        Due.due("fault", x.town(), -1000120);
        Due.due("its number", x.fault(), 1);
        Due.due("tape", x.count(9), 0);
        Due.due("streets", x.count(1), 2);
        Due.due("reach", x.count(4), 1);
        Due.due("thieves", x.count(5), 2);
        Due.due("hour", x.count(3), 2);
        Due.due("kind", x.kind(1), 4);
        Due.due("acts", x.count(8), 2);
        Due.feed(x, "d9");
        Due.due("another fault", x.town(), -1000101);
        Due.due("the latest", x.fault(), 2);
        Due.feed(x, "d0,0;a0,0;r0;");
        Due.due("a town", x.town(), 1);
        Due.due("the latest fault is still told", x.fault(), 2);
    }

    /** Bytes of an earlier text are no bytes of this one, nor is there any behind the last of 110. */
    private static void nothingIsReadBehindTheEnd() {
        String text = "d1,2;a15,20;t16,30;r1;";
        for (int end = 0; end < text.length(); end++) {
            DrumPeace x = Due.town(text);
            Due.feed(x, text.substring(0, end));
            Due.due("town cut at " + end, x.town(), -1000100 - end);
            Due.due("fault", x.fault(), 1);
        }
        String longest = "d01,01;" + "a10,10;".repeat(8) + "r00;".repeat(8);
        Due.due("streets of the longest", Due.town(longest).count(1), 8);
        faulty(longest + "r00;r00;r00;r00", 95, 3);
        faulty(longest + ";".repeat(15), 95, 1);
    }
}
