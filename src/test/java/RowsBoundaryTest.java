/** The boundary cases of promises 2 to 5: row, set, copy, drop. */
public final class RowsBoundaryTest {
    private static final Check CHECK = new Check();
    private static final int LEAST = Integer.MIN_VALUE, MOST = Integer.MAX_VALUE;
    private static final int[] NO_ROWS = {-1, 8, LEAST, MOST};
    /** Turned p times, the order has p ahead: so a ledger of one ITEM tells which of the PEOPLE it is. */
    private static final String READER = "w1,0;o;pa1,9;pb1,9;pc1,9;pd1,9;pe1,9;pf1,9;";

    public static void main(String[] args) throws ReflectiveOperationException {
        Boundaries.runAll(RowsBoundaryTest.class, CHECK, 2, 3, 4, 5);
    }

    private static int itemAt(AlphaCourt x, int row, int i) {
        int turns = x.ledger(row, i, 1);
        return turns == 0b11000001 ? 0 : turns <= 0 ? turns : Integer.numberOfTrailingZeros(turns);
    }

    private static void dueItems(String what, AlphaCourt x, int row, int... want) {
        for (int i = 0; i < want.length; i++) {
            CHECK.due(what + ": item " + i, itemAt(x, row, i), want[i]);
        }
        CHECK.due(what + ": no more items", x.set(row, want.length, 0), Check.PLACE);
    }

    private static AlphaCourt withRow(int lane, int... items) {
        AlphaCourt x = Check.courtOf(READER);
        fill(x, 0, lane, items);
        return x;
    }

    private static void fill(AlphaCourt x, int row, int lane, int... items) {
        CHECK.due("row", x.row(row, lane, items.length), items.length);
        for (int i = 0; i < items.length; i++) {
            CHECK.due("set", x.set(row, i, items[i]), items[i]);
        }
    }

    // ---- row

    static void promise02_allRowsAreMissingAtFirst() {
        AlphaCourt x = new AlphaCourt();
        CHECK.due("rows", x.count(0), 0);
        for (int row = 0; row < 8; row++) {
            CHECK.due("set of row " + row, x.set(row, 0, 0), Check.NULL);
            CHECK.due("drop of row " + row, x.drop(row), Check.NULL);
        }
    }

    static void promise02_rows0To7OfLanes0To2AreMade() {
        AlphaCourt x = new AlphaCourt();
        for (int row = 0; row < 8; row++) {
            CHECK.due("row " + row, x.row(row, row % 3, 1), 1);
            CHECK.due("rows", x.count(0), row + 1);
        }
    }

    static void promise02_noSuchRowIsBad() {
        AlphaCourt x = new AlphaCourt();
        for (int row : NO_ROWS) {
            CHECK.due("row " + row, x.row(row, 0, 1), Check.BAD);
        }
        CHECK.due("rows", x.count(0), 0);
    }

    static void promise02_noSuchLaneIsBad() {
        AlphaCourt x = new AlphaCourt();
        for (int lane : new int[] {-1, 3, LEAST, MOST}) {
            CHECK.due("lane " + lane, x.row(0, lane, 1), Check.BAD);
        }
        CHECK.due("rows", x.count(0), 0);
    }

    static void promise02_noneTo40ItemsAreMade() {
        AlphaCourt x = new AlphaCourt();
        for (int lane = 0; lane < 3; lane++) {
            CHECK.due("none", x.row(0, lane, 0), 0);
            CHECK.due("it is there", x.count(0), 1);
            CHECK.due("it has no place 0", x.set(0, 0, 1), Check.PLACE);
            CHECK.due("40", x.row(0, lane, 40), 40);
            CHECK.due("place 39", x.set(0, 39, 1), 1);
            CHECK.due("no place 40", x.set(0, 40, 1), Check.PLACE);
        }
    }

    static void promise02_nAbove40IsBad() {
        AlphaCourt x = new AlphaCourt();
        CHECK.due("41", x.row(0, 0, 41), Check.BAD);
        CHECK.due("the most", x.row(0, 2, MOST), Check.BAD);
        CHECK.due("rows", x.count(0), 0);
        CHECK.due("no finding", x.status(), 0);
    }

    static void promise02_fewerThanNoneIsSize() {
        AlphaCourt x = new AlphaCourt();
        for (int n : new int[] {-1, -41, LEAST}) {
            x.row(1, 0, 0);
            CHECK.due("n " + n, x.row(0, 0, n), Check.SIZE);
            CHECK.due("status", x.status(), 4);
        }
        CHECK.due("rows", x.count(0), 1);
    }

    static void promise02_badComesAheadOfSize() {
        AlphaCourt x = new AlphaCourt();
        CHECK.due("row 8", x.row(8, 0, -1), Check.BAD);
        CHECK.due("row -1", x.row(-1, 0, -1), Check.BAD);
        CHECK.due("lane 3", x.row(0, 3, -1), Check.BAD);
        CHECK.due("lane -1", x.row(0, -1, -1), Check.BAD);
        CHECK.due("no finding", x.status(), 0);
    }

    static void promise02_itemsAre0AtFirst() {
        for (int lane = 0; lane < 3; lane++) {
            AlphaCourt x = withRow(lane, new int[0]);
            x.row(0, lane, 40);
            dueItems("lane " + lane, x, 0, new int[40]);
        }
    }

    static void promise02_itemsOfARowMadeAnewAre0() {
        AlphaCourt x = withRow(0, 1, 2, 3);
        x.row(0, 0, 2);
        dueItems("fewer", x, 0, 0, 0);
        x.row(0, 0, 3);
        dueItems("more again", x, 0, 0, 0, 0);
    }

    static void promise02_laneAndSizeAreThoseOfTheNewRow() {
        AlphaCourt x = new AlphaCourt();
        x.row(0, 2, 5);
        x.row(0, 0, 3);
        CHECK.due("rows", x.count(0), 1);
        CHECK.due("a byte now", x.set(0, 2, 200), -56);
        CHECK.due("no place 3", x.set(0, 3, 0), Check.PLACE);
        x.row(0, 1, 4);
        CHECK.due("a short now", x.set(0, 3, 40000), -25536);
        CHECK.due("items", x.drop(0), 4);
    }

    static void promise02_refusedLeavesTheRow() {
        AlphaCourt x = withRow(0, 3, 4, 5);
        x.row(0, 1, 41);
        x.row(0, 3, 1);
        x.row(0, -1, 1);
        x.row(0, 1, -1);
        dueItems("as before", x, 0, 3, 4, 5);
        CHECK.due("still a byte", x.set(0, 0, 128), -128);
    }

    // ---- set

    static void promise03_noSuchRowIsBad() {
        AlphaCourt x = new AlphaCourt();
        for (int row : NO_ROWS) {
            CHECK.due("row " + row, x.set(row, 0, 0), Check.BAD);
        }
        CHECK.due("no finding", x.status(), 0);
    }

    static void promise03_missingRowIsNull() {
        AlphaCourt x = new AlphaCourt();
        CHECK.due("missing", x.set(7, 0, 0), Check.NULL);
        CHECK.due("status", x.status(), 1);
    }

    static void promise03_nullComesAheadOfPlace() {
        AlphaCourt x = new AlphaCourt();
        CHECK.due("place -1", x.set(0, -1, 0), Check.NULL);
        CHECK.due("place 40", x.set(0, 40, 0), Check.NULL);
    }

    static void promise03_noSuchPlaceIsPlace() {
        AlphaCourt x = withRow(1, 2, 3, 4);
        for (int i : new int[] {-1, 3, 39, 40, LEAST, MOST}) {
            CHECK.due("place " + i, x.set(0, i, 5), Check.PLACE);
            CHECK.due("status", x.status(), 2);
        }
        dueItems("all stay", x, 0, 2, 3, 4);
    }

    static void promise03_emptyRowHasNoPlace() {
        AlphaCourt x = new AlphaCourt();
        x.row(0, 2, 0);
        CHECK.due("place 0", x.set(0, 0, 0), Check.PLACE);
    }

    static void promise03_bytesTakeTheLowest8Bits() {
        AlphaCourt x = new AlphaCourt();
        x.row(0, 0, 1);
        int[] values = {127, 128, 255, 256, -128, -129, LEAST, MOST, 0x1234};
        int[] want = {127, -128, -1, 0, -128, 127, 0, -1, 0x34};
        for (int k = 0; k < values.length; k++) {
            CHECK.due("byte " + values[k], x.set(0, 0, values[k]), want[k]);
        }
    }

    static void promise03_shortsTakeTheLowest16Bits() {
        AlphaCourt x = new AlphaCourt();
        x.row(0, 1, 1);
        int[] values = {32767, 32768, 65535, 65536, -32768, -32769, LEAST, MOST, 0x123456, 200};
        int[] want = {32767, -32768, -1, 0, -32768, 32767, 0, -1, 0x3456, 200};
        for (int k = 0; k < values.length; k++) {
            CHECK.due("short " + values[k], x.set(0, 0, values[k]), want[k]);
        }
    }

    static void promise03_intsTakeAllBits() {
        AlphaCourt x = new AlphaCourt();
        x.row(0, 2, 1);
        for (int v : new int[] {LEAST, MOST, -1, 0, 65536, -32769}) {
            CHECK.due("int " + v, x.set(0, 0, v), v);
        }
    }

    static void promise03_firstAndLastItemAreSetAlone() {
        AlphaCourt x = withRow(0, 1, 1, 1);
        x.set(0, 0, 4);
        dueItems("the first", x, 0, 4, 1, 1);
        x.set(0, 2, 5);
        dueItems("the last", x, 0, 4, 1, 5);
    }

    // ---- copy

    static void promise04_noSuchRowsAreBad() {
        AlphaCourt x = withRow(0, 1, 2);
        for (int row : NO_ROWS) {
            CHECK.due("from " + row, x.copy(row, 0, 0, 0, 1), Check.BAD);
            CHECK.due("to " + row, x.copy(0, 0, row, 0, 1), Check.BAD);
        }
        CHECK.due("no finding", x.status(), 0);
    }

    static void promise04_badComesAheadOfNull() {
        AlphaCourt x = new AlphaCourt();
        CHECK.due("from 8 to a missing one", x.copy(8, 0, 0, 0, 1), Check.BAD);
        CHECK.due("from a missing one to -1", x.copy(0, 0, -1, 0, 1), Check.BAD);
    }

    static void promise04_missingRowsAreNull() {
        AlphaCourt x = withRow(0, 1, 2);
        CHECK.due("from", x.copy(1, 0, 0, 0, 1), Check.NULL);
        CHECK.due("status", x.status(), 1);
        x.set(0, 0, 1);
        CHECK.due("to", x.copy(0, 0, 1, 0, 1), Check.NULL);
        CHECK.due("status", x.status(), 1);
        CHECK.due("both", x.copy(2, 0, 1, 0, 1), Check.NULL);
        CHECK.due("none of both", x.copy(2, 0, 2, 0, 0), Check.NULL);
    }

    static void promise04_nullComesAheadOfPlace() {
        AlphaCourt x = withRow(0, 1, 2);
        CHECK.due("from", x.copy(1, -1, 0, 0, 1), Check.NULL);
        CHECK.due("to", x.copy(0, 0, 1, 0, -1), Check.NULL);
        CHECK.due("to, too many", x.copy(0, 0, 1, 0, 3), Check.NULL);
    }

    static void promise04_twoLanesAreStore() {
        for (int lane = 0; lane < 3; lane++) {
            AlphaCourt x = withRow(lane, 1, 2);
            x.row(1, (lane + 1) % 3, 2);
            CHECK.due("to the next lane", x.copy(0, 0, 1, 0, 1), Check.STORE);
            CHECK.due("status", x.status(), 5);
            CHECK.due("and back, none", x.copy(1, 0, 0, 0, 0), Check.STORE);
            dueItems("all stay", x, 0, 1, 2);
            dueItems("all stay there", x, 1, 0, 0);
        }
    }

    static void promise04_storeComesAheadOfPlace() {
        AlphaCourt x = withRow(0, 1, 2);
        x.row(1, 1, 2);
        CHECK.due("i", x.copy(0, -1, 1, 0, 1), Check.STORE);
        CHECK.due("j", x.copy(0, 0, 1, 3, 1), Check.STORE);
        CHECK.due("n", x.copy(0, 0, 1, 0, -1), Check.STORE);
    }

    static void promise04_belowNoneIsPlace() {
        AlphaCourt x = withRow(0, 1, 2);
        fill(x, 1, 0, 3, 4);
        for (int low : new int[] {-1, LEAST}) {
            CHECK.due("i " + low, x.copy(0, low, 1, 0, 1), Check.PLACE);
            CHECK.due("status", x.status(), 2);
            CHECK.due("j " + low, x.copy(0, 0, 1, low, 1), Check.PLACE);
            CHECK.due("n " + low, x.copy(0, 0, 1, 0, low), Check.PLACE);
            CHECK.due("i, none " + low, x.copy(0, low, 1, 0, 0), Check.PLACE);
            CHECK.due("j, none " + low, x.copy(0, 0, 1, low, 0), Check.PLACE);
        }
        dueItems("all stay", x, 1, 3, 4);
    }

    static void promise04_beyondAnEndIsPlace() {
        AlphaCourt x = withRow(0, 1, 2, 3);
        fill(x, 1, 0, 4, 5);
        CHECK.due("beyond the end of a", x.copy(1, 1, 0, 0, 2), Check.PLACE);
        CHECK.due("status", x.status(), 2);
        CHECK.due("beyond the end of b", x.copy(0, 0, 1, 1, 2), Check.PLACE);
        CHECK.due("more than b has", x.copy(0, 0, 1, 0, 3), Check.PLACE);
        CHECK.due("one at the end of a", x.copy(0, 3, 1, 0, 1), Check.PLACE);
        CHECK.due("one at the end of b", x.copy(0, 0, 1, 2, 1), Check.PLACE);
        CHECK.due("41 of 40", x.copy(0, 0, 1, 0, 41), Check.PLACE);
        dueItems("all stay", x, 0, 1, 2, 3);
        dueItems("all stay there", x, 1, 4, 5);
    }

    static void promise04_sumsThatWrapAroundArePlace() {
        AlphaCourt x = withRow(0, 1, 2);
        fill(x, 1, 0, 4, 5);
        CHECK.due("i and n", x.copy(0, 1, 1, 0, MOST), Check.PLACE);
        CHECK.due("i", x.copy(0, MOST, 1, 0, 1), Check.PLACE);
        CHECK.due("i and 2", x.copy(0, MOST, 1, 0, 2), Check.PLACE);
        CHECK.due("j", x.copy(0, 0, 1, MOST, 1), Check.PLACE);
        CHECK.due("j and 2", x.copy(0, 0, 1, MOST, 2), Check.PLACE);
        CHECK.due("all", x.copy(0, MOST, 1, MOST, MOST), Check.PLACE);
    }

    static void promise04_noneAreCopiedUpToTheEnds() {
        AlphaCourt x = withRow(0, 1, 2);
        fill(x, 1, 0, 4);
        x.row(2, 0, 0);
        CHECK.due("at both ends", x.copy(0, 2, 1, 1, 0), 0);
        CHECK.due("of and to an empty one", x.copy(2, 0, 2, 0, 0), 0);
        CHECK.due("from an empty one", x.copy(2, 0, 1, 0, 0), 0);
        CHECK.due("behind the end of a", x.copy(0, 3, 1, 1, 0), Check.PLACE);
        CHECK.due("behind the end of b", x.copy(0, 2, 1, 2, 0), Check.PLACE);
        CHECK.due("behind the end of an empty one", x.copy(2, 1, 1, 0, 0), Check.PLACE);
        dueItems("all stay", x, 1, 4);
    }

    static void promise04_all40AreCopied() {
        for (int lane = 0; lane < 3; lane++) {
            AlphaCourt x = Check.courtOf(READER);
            int[] items = new int[40];
            for (int i = 0; i < 40; i++) {
                items[i] = i % 6;
            }
            fill(x, 0, lane, items);
            x.row(1, lane, 40);
            CHECK.due("40", x.copy(0, 0, 1, 0, 40), 40);
            dueItems("lane " + lane, x, 1, items);
        }
    }

    static void promise04_withinARowItemsAreAsTheyWereAhead() {
        AlphaCourt up = withRow(0, 0, 1, 2, 3, 4);
        CHECK.due("upwards", up.copy(0, 0, 0, 1, 4), 4);
        dueItems("upwards", up, 0, 0, 0, 1, 2, 3);
        AlphaCourt down = withRow(0, 0, 1, 2, 3, 4);
        CHECK.due("downwards", down.copy(0, 1, 0, 0, 4), 4);
        dueItems("downwards", down, 0, 1, 2, 3, 4, 4);
        AlphaCourt same = withRow(0, 0, 1, 2);
        CHECK.due("to itself", same.copy(0, 0, 0, 0, 3), 3);
        dueItems("to itself", same, 0, 0, 1, 2);
    }

    static void promise04_onlyNItemsCome() {
        AlphaCourt x = withRow(0, 0, 1, 2, 3);
        fill(x, 1, 0, 5, 5, 5, 5);
        CHECK.due("two in the middle", x.copy(0, 2, 1, 1, 2), 2);
        dueItems("those", x, 1, 5, 2, 3, 5);
        dueItems("a stays", x, 0, 0, 1, 2, 3);
        CHECK.due("no finding", x.copy(0, 0, 1, 0, 1) + x.status(), 1);
    }

    // ---- drop

    static void promise05_noSuchRowIsBad() {
        AlphaCourt x = new AlphaCourt();
        for (int row : NO_ROWS) {
            CHECK.due("row " + row, x.drop(row), Check.BAD);
        }
        CHECK.due("no finding", x.status(), 0);
    }

    static void promise05_missingRowIsNull() {
        AlphaCourt x = new AlphaCourt();
        for (int row = 0; row < 8; row++) {
            CHECK.due("row " + row, x.drop(row), Check.NULL);
            CHECK.due("status", x.status(), 1);
        }
    }

    static void promise05_noneTo40ItemsAreTold() {
        AlphaCourt x = new AlphaCourt();
        for (int n : new int[] {0, 1, 40}) {
            x.row(7, 1, n);
            CHECK.due("n", x.drop(7), n);
            CHECK.due("no finding", x.status(), 0);
        }
    }

    static void promise05_missingFromNowOn() {
        AlphaCourt x = withRow(0, 1, 2);
        fill(x, 1, 0, 3);
        x.drop(0);
        CHECK.due("rows", x.count(0), 1);
        CHECK.due("set", x.set(0, 0, 0), Check.NULL);
        CHECK.due("copy", x.copy(0, 0, 1, 0, 1), Check.NULL);
        CHECK.due("ledger", x.ledger(0, 0, 0), Check.NULL);
        CHECK.due("drop", x.drop(0), Check.NULL);
        dueItems("the other stays", x, 1, 3);
    }

    static void promise05_droppedRowCanBeMadeAnew() {
        AlphaCourt x = withRow(0, 1, 2);
        x.drop(0);
        CHECK.due("row", x.row(0, 0, 2), 2);
        dueItems("0 at first", x, 0, 0, 0);
    }
}
