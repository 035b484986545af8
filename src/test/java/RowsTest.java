/** Promises 2 to 5 and 30: row, set, copy, drop, status. */
public final class RowsTest {
    private static final Check CHECK = new Check();

    public static void main(String[] args) {
        makes();
        sets();
        copies();
        drops();
        tellsFindings();
        CHECK.finish();
    }

    private static void makes() {
        AlphaCourt x = new AlphaCourt();
        CHECK.due("row of none", x.row(0, 0, 0), 0);
        CHECK.due("row of 40", x.row(7, 2, 40), 40);
        CHECK.due("rows there are", x.count(0), 2);
        CHECK.due("row 8", x.row(8, 0, 1), Check.BAD);
        CHECK.due("row -1", x.row(-1, 0, 1), Check.BAD);
        CHECK.due("lane 3", x.row(0, 3, 1), Check.BAD);
        CHECK.due("lane -1", x.row(0, -1, 1), Check.BAD);
        CHECK.due("row of 41", x.row(0, 0, 41), Check.BAD);
        CHECK.due("row of -1", x.row(0, 0, -1), Check.SIZE);
        CHECK.due("row of the least int", x.row(0, 0, Integer.MIN_VALUE), Check.SIZE);
        CHECK.due("BAD ahead of SIZE", x.row(8, 0, -1), Check.BAD);
        CHECK.due("a row that was refused is as before", x.set(7, 39, 3), 3);
        x.row(7, 2, -5);
        CHECK.due("so is one that was found", x.set(7, 39, 4), 4);
    }

    private static void sets() {
        AlphaCourt x = new AlphaCourt();
        x.row(0, 0, 3);
        x.row(1, 1, 3);
        x.row(2, 2, 3);
        CHECK.due("byte 127", x.set(0, 0, 127), 127);
        CHECK.due("byte 128", x.set(0, 0, 128), -128);
        CHECK.due("byte 256", x.set(0, 2, 256), 0);
        CHECK.due("byte -129", x.set(0, 2, -129), 127);
        CHECK.due("short 32768", x.set(1, 0, 32768), -32768);
        CHECK.due("short 65536", x.set(1, 0, 65536), 0);
        CHECK.due("short 300", x.set(1, 0, 300), 300);
        CHECK.due("the most int", x.set(2, 0, Integer.MAX_VALUE), Integer.MAX_VALUE);
        CHECK.due("the least int", x.set(2, 2, Integer.MIN_VALUE), Integer.MIN_VALUE);
        CHECK.due("item -1", x.set(0, -1, 0), Check.PLACE);
        CHECK.due("item 3", x.set(0, 3, 0), Check.PLACE);
        CHECK.due("missing", x.set(3, 0, 0), Check.NULL);
        CHECK.due("missing, ahead of PLACE", x.set(3, 50, 0), Check.NULL);
        CHECK.due("row 8", x.set(8, 0, 0), Check.BAD);
        CHECK.due("row -1", x.set(-1, 0, 0), Check.BAD);
    }

    /** A COURT whose PEOPLE a ledger would take from a ROW: the only way to see an ITEM is by what it does. */
    private static boolean holds(AlphaCourt x, int row, int i, int p) {
        return x.ledger(row, i, 1) == 255 && x.person(p, 5) == 0;
    }

    private static void copies() {
        AlphaCourt x = Check.courtOf("w1,0;o;ta1,9;pa1,9;pb1,9;");
        x.row(0, 0, 4);
        x.row(1, 0, 4);
        for (int i = 0; i < 4; i++) {
            x.set(0, i, i == 0 ? 0 : 1);
            x.set(1, i, 2);
        }
        CHECK.due("copies upwards within a row", x.copy(0, 0, 0, 1, 3), 3);
        CHECK.due("as they were ahead: 1", holds(x, 0, 1, 0) ? 1 : 0, 1);
        CHECK.due("as they were ahead: 2", x.ledger(0, 2, 1), 0);
        CHECK.due("as they were ahead: 3", x.ledger(0, 3, 1), 0);
        CHECK.due("copies downwards", x.copy(0, 1, 0, 0, 3), 3);
        CHECK.due("as they were ahead: 0", holds(x, 0, 0, 0) ? 1 : 0, 1);
        CHECK.due("as they were ahead: 1 again", x.ledger(0, 1, 1), 0);
        CHECK.due("copies to another", x.copy(0, 0, 1, 3, 1), 1);
        CHECK.due("it came", holds(x, 1, 3, 0) ? 1 : 0, 1);
        CHECK.due("its neighbour stayed", x.ledger(1, 2, 1), 0);
        CHECK.due("none, at the end", x.copy(0, 4, 1, 4, 0), 0);
        CHECK.due("none, beyond the end", x.copy(0, 5, 1, 4, 0), Check.PLACE);
        CHECK.due("none, to beyond the end", x.copy(0, 4, 1, 5, 0), Check.PLACE);
        CHECK.due("i below 0", x.copy(0, -1, 1, 0, 1), Check.PLACE);
        CHECK.due("j below 0", x.copy(0, 0, 1, -1, 1), Check.PLACE);
        CHECK.due("n below 0", x.copy(0, 0, 1, 0, -1), Check.PLACE);
        CHECK.due("i beyond", x.copy(0, 2, 1, 0, 3), Check.PLACE);
        CHECK.due("j beyond", x.copy(0, 0, 1, 2, 3), Check.PLACE);
        CHECK.due("sums that wrap", x.copy(0, 1, 1, 1, Integer.MAX_VALUE), Check.PLACE);
        CHECK.due("place that wraps", x.copy(0, Integer.MAX_VALUE, 1, 1, 4), Check.PLACE);
        x.row(2, 1, 4);
        CHECK.due("two lanes", x.copy(0, 0, 2, 0, 1), Check.STORE);
        CHECK.due("two lanes, none", x.copy(0, 0, 2, 0, 0), Check.STORE);
        CHECK.due("two lanes, ahead of PLACE", x.copy(0, -1, 2, 0, 1), Check.STORE);
        CHECK.due("missing source", x.copy(3, 0, 0, 0, 1), Check.NULL);
        CHECK.due("missing target", x.copy(0, 0, 3, -1, 1), Check.NULL);
        CHECK.due("row a", x.copy(8, 0, 0, 0, 1), Check.BAD);
        CHECK.due("row b", x.copy(3, 0, -1, 0, 1), Check.BAD);
    }

    private static void drops() {
        AlphaCourt x = new AlphaCourt();
        x.row(5, 1, 17);
        CHECK.due("drop", x.drop(5), 17);
        CHECK.due("missing from now on", x.set(5, 0, 0), Check.NULL);
        CHECK.due("drop what is missing", x.drop(5), Check.NULL);
        CHECK.due("rows there are", x.count(0), 0);
        CHECK.due("row 8", x.drop(8), Check.BAD);
        CHECK.due("row -1", x.drop(-1), Check.BAD);
        AlphaCourt y = Check.courtOf("w1,0;o;pa1,9;tb1,9;");
        y.row(0, 0, 1);
        y.set(0, 0, 1);
        CHECK.due("the item that was set", y.ledger(0, 0, 1), 255);
        y.row(0, 0, 1);
        CHECK.due("items of a new row are 0", y.ledger(0, 0, 1), 0);
    }

    private static void tellsFindings() {
        AlphaCourt x = new AlphaCourt();
        CHECK.due("at first", x.status(), 0);
        x.drop(0);
        CHECK.due("NULL", x.status(), 1);
        x.row(9, 0, 0);
        x.set(9, 0, 0);
        x.copy(9, 0, 0, 0, 0);
        x.drop(9);
        x.ledger(0, 0, 0);
        x.as(0, 0);
        CHECK.due("what is BAD, or STATE, leaves it", x.status(), 1);
        x.feed(1);
        x.court();
        x.ask(0, 0);
        x.count(0);
        CHECK.due("calls without a ROW leave it", x.status(), 1);
        x.row(0, 0, 2);
        CHECK.due("none", x.status(), 0);
        x.set(0, 2, 0);
        CHECK.due("PLACE", x.status(), 2);
        x.set(0, 1, 0);
        CHECK.due("none after set", x.status(), 0);
        x.row(1, 0, -1);
        CHECK.due("SIZE", x.status(), 4);
        x.copy(0, 0, 0, 0, 1);
        CHECK.due("none after copy", x.status(), 0);
        x.row(1, 1, 1);
        x.copy(0, 0, 1, 0, 0);
        CHECK.due("STORE", x.status(), 5);
        x.drop(1);
        CHECK.due("none after drop", x.status(), 0);
        Check.read(x, "w1,0;o;pa1,9;");
        x.as(0, 4);
        CHECK.due("KIND", x.status(), 3);
        x.as(0, 6);
        CHECK.due("BAD as() leaves it", x.status(), 3);
        x.as(0, 1);
        CHECK.due("none after as", x.status(), 0);
        x.ledger(1, 0, 0);
        CHECK.due("NULL of a ledger", x.status(), 1);
        x.set(0, 0, 1);
        x.ledger(0, 3, 0);
        CHECK.due("PLACE of a ledger", x.status(), 2);
        x.ledger(0, 0, 1);
        CHECK.due("a ledger's BAD ITEM leaves it", x.status(), 2);
        x.set(0, 5, 0);
        x.ledger(0, 1, 1);
        CHECK.due("none after ledger", x.status(), 0);
    }
}
