/** Promises 2 to 5 and 36: rows, and what status() says of calls with them. */
public final class RowsTest {
    public static void main(String[] args) {
        rowsAreLaid();
        itemsAreSet();
        itemsAreCopied();
        rowsAreDropped();
        statusIsOfTheLatestCall();
        Due.end();
    }

    private static void rowsAreLaid() {
        DrumPeace x = new DrumPeace();
        for (int r = 0; r < 8; r++) {
            Due.due("row " + r, x.row(r, r % 3, 5 * r), 5 * r);
            Due.due("rows", x.count(0), r + 1);
        }
        Due.due("40 items", x.row(0, 2, 40), 40);
        Due.due("41 items", x.row(0, 2, 41), DrumPeace.BAD);
        Due.due("row -1", x.row(-1, 0, 1), DrumPeace.BAD);
        Due.due("row 8", x.row(8, 0, 1), DrumPeace.BAD);
        Due.due("lane -1", x.row(0, -1, 1), DrumPeace.BAD);
        Due.due("lane 3", x.row(0, 3, 1), DrumPeace.BAD);
        Due.due("lane 3 ahead of SIZE", x.row(0, 3, -1), DrumPeace.BAD);
        Due.due("-1 items", x.row(0, 0, -1), Due.SIZE);
        Due.due("least items", x.row(0, 0, Integer.MIN_VALUE), Due.SIZE);
        Due.due("most items", x.row(0, 0, Integer.MAX_VALUE), DrumPeace.BAD);
        Due.due("the row stays when refused", x.set(0, 39, 70000), 70000);
        Due.due("laid anew", x.row(0, 2, 40), 40);
        x.row(1, 2, 1);
        Due.due("a row laid anew holds 0", firstItemOf(x, 0, 39), 0);
        Due.due("a row replaced is one row", x.count(0), 8);
        Due.due("no items", x.row(0, 1, 0), 0);
        Due.due("a row of no items is there", x.drop(0), 0);
    }

    /** Reads an item of a row of ints through fits(): the bit of the depth 0 to 20 that it holds. */
    private static int firstItemOf(DrumPeace x, int row, int i) {
        Due.feed(x, "d0,0;t1,0;r0;");
        x.town();
        int bits = x.fits(0, row, i, 1, 1);
        return bits == 3 ? 0 : bits;
    }

    private static void itemsAreSet() {
        DrumPeace x = new DrumPeace();
        Due.due("set in a missing row", x.set(0, 0, 1), Due.NULL);
        Due.due("set in row 8", x.set(8, 0, 1), DrumPeace.BAD);
        Due.due("set in row -1", x.set(-1, 0, 1), DrumPeace.BAD);
        x.row(0, 0, 3);
        x.row(1, 1, 3);
        x.row(2, 2, 3);
        Due.due("byte 127", x.set(0, 0, 127), 127);
        Due.due("byte 128", x.set(0, 0, 128), -128);
        Due.due("byte 256", x.set(0, 2, 256), 0);
        Due.due("byte -129", x.set(0, 2, -129), 127);
        Due.due("short 32767", x.set(1, 0, 32767), 32767);
        Due.due("short 32768", x.set(1, 0, 32768), -32768);
        Due.due("short -32769", x.set(1, 0, -32769), 32767);
        Due.due("int most", x.set(2, 0, Integer.MAX_VALUE), Integer.MAX_VALUE);
        Due.due("int that looks like NULL", x.set(2, 0, Due.NULL), Due.NULL);
        Due.due("is no finding", x.status(), 0);
        Due.due("place 3", x.set(0, 3, 1), Due.PLACE);
        Due.due("place -1", x.set(0, -1, 1), Due.PLACE);
        Due.due("place most", x.set(0, Integer.MAX_VALUE, 1), Due.PLACE);
        Due.due("place least", x.set(0, Integer.MIN_VALUE, 1), Due.PLACE);
    }

    private static void itemsAreCopied() {
        DrumPeace x = Due.town("d0,0;t20,0;r0;");
        x.row(0, 0, 4);
        x.row(1, 0, 6);
        x.row(2, 1, 4);
        for (int i = 0; i < 4; i++) {
            x.set(0, i, 10 + i);
        }
        Due.due("copy", x.copy(0, 1, 1, 3, 3), 3);
        Due.due("1 at 3", depthTold(x, 1, 3), 12);
        Due.due("2 at 4", depthTold(x, 1, 4), 13);
        Due.due("3 at 5", depthTold(x, 1, 5), 14);
        Due.due("forward over itself", x.copy(0, 0, 0, 1, 3), 3);
        Due.due("0 stays", depthTold(x, 0, 0), 11);
        Due.due("0 at 1", depthTold(x, 0, 1), 11);
        Due.due("1 at 2", depthTold(x, 0, 2), 12);
        Due.due("2 at 3", depthTold(x, 0, 3), 13);
        Due.due("backward over itself", x.copy(0, 2, 0, 0, 2), 2);
        Due.due("2 at 0", depthTold(x, 0, 0), 12);
        Due.due("3 at 1", depthTold(x, 0, 1), 13);
        copyEdges(x);
    }

    private static void copyEdges(DrumPeace x) {
        int most = Integer.MAX_VALUE;
        int least = Integer.MIN_VALUE;
        Due.due("none at both ends", x.copy(0, 4, 1, 6, 0), 0);
        Due.due("none beyond the end of a", x.copy(0, 5, 1, 0, 0), Due.PLACE);
        Due.due("none beyond the end of b", x.copy(0, 0, 1, 7, 0), Due.PLACE);
        Due.due("too many of a", x.copy(0, 2, 1, 0, 3), Due.PLACE);
        Due.due("too many for b", x.copy(0, 0, 1, 4, 3), Due.PLACE);
        Due.due("n below 0", x.copy(0, 0, 1, 0, -1), Due.PLACE);
        Due.due("i below 0", x.copy(0, -1, 1, 0, 1), Due.PLACE);
        Due.due("j below 0", x.copy(0, 0, 1, -1, 1), Due.PLACE);
        Due.due("sums that wrap", x.copy(0, 2, 1, 2, most), Due.PLACE);
        Due.due("places that wrap", x.copy(0, most, 1, most, most), Due.PLACE);
        Due.due("least of all", x.copy(0, least, 1, least, least), Due.PLACE);
        Due.due("two lanes, no items", x.copy(0, 0, 2, 0, 0), Due.STORE);
        Due.due("two lanes ahead of PLACE", x.copy(0, -1, 2, 0, 1), Due.STORE);
        Due.due("missing ahead of PLACE", x.copy(0, -1, 3, 0, 1), Due.NULL);
        Due.due("missing a", x.copy(3, 0, 0, 0, 1), Due.NULL);
        Due.due("row 8", x.copy(8, 0, 0, 0, 1), DrumPeace.BAD);
        Due.due("row 8 ahead of missing", x.copy(3, 0, 8, 0, 1), DrumPeace.BAD);
        Due.due("row -1", x.copy(0, 0, -1, 0, 1), DrumPeace.BAD);
    }

    /** The one depth from which a tannery comes to what the item tells. */
    private static int depthTold(DrumPeace x, int row, int i) {
        int bits = x.fits(0, row, i, 1, 1);
        return bits <= 0 ? bits : Integer.numberOfTrailingZeros(bits);
    }

    private static void rowsAreDropped() {
        DrumPeace x = new DrumPeace();
        x.row(5, 1, 17);
        Due.due("rows", x.count(0), 1);
        Due.due("drop", x.drop(5), 17);
        Due.due("rows", x.count(0), 0);
        Due.due("drop again", x.drop(5), Due.NULL);
        Due.due("drop -1", x.drop(-1), DrumPeace.BAD);
        Due.due("drop 8", x.drop(8), DrumPeace.BAD);
        Due.due("set in what was dropped", x.set(5, 0, 1), Due.NULL);
    }

    private static void statusIsOfTheLatestCall() {
        DrumPeace x = new DrumPeace();
        Due.due("no call yet", x.status(), 0);
        x.drop(0);
        Due.due("NULL", x.status(), 1);
        x.drop(9);
        Due.due("BAD is passed over", x.status(), 1);
        x.row(0, 0, 1);
        Due.due("none", x.status(), 0);
        x.set(0, 1, 1);
        Due.due("PLACE", x.status(), 2);
        Due.feed(x, "d0,0;a1,0;r0;");
        x.town();
        x.hours(1);
        x.undo();
        Due.due("calls without a row are passed over", x.status(), 2);
        x.as(0, 1);
        Due.due("as", x.status(), 0);
        x.as(0, 2);
        Due.due("KIND", x.status(), 3);
        x.as(0, 6);
        Due.due("BAD as", x.status(), 3);
        x.row(0, 0, -1);
        Due.due("SIZE", x.status(), 4);
        x.row(1, 1, 1);
        x.copy(0, 0, 1, 0, 1);
        Due.due("STORE", x.status(), 5);
        x.fits(0, 0, 0, 0, 0);
        Due.due("BAD fits", x.status(), 5);
        x.fits(0, 0, 0, 1, 0);
        Due.due("fits", x.status(), 0);
        x.fits(0, 7, 0, 1, 0);
        Due.due("fits of a missing row", x.status(), 1);
    }
}
