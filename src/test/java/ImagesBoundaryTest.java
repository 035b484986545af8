/** The boundary cases of promises 23 and 24: image, restore. */
public final class ImagesBoundaryTest {
    private static final Check CHECK = new Check();
    private static final int LEAST = Integer.MIN_VALUE, MOST = Integer.MAX_VALUE;
    private static final int[] NO_IMAGES = {-1, 2, LEAST, MOST};
    private static final String HEAD = "w1,0;o;";
    private static final String MIXED = "w2,2;oc;rab2,9;pb2,4;qcd1,30;ta1,3;sh1,20;";
    private static final String SHORT = "w1,0;oh;pa1,5;";

    public static void main(String[] args) throws ReflectiveOperationException {
        Boundaries.runAll(ImagesBoundaryTest.class, CHECK, 23, 24);
    }

    /** So that images can be told from one another: the DAY on which each was kept. */
    private static int dayOf(AlphaCourt x, int k) {
        CHECK.due("restore " + k, x.restore(k), 1);
        return x.count(4);
    }

    // ---- image

    static void promise23_noSuchImageIsBad() {
        AlphaCourt x = Check.courtOf(SHORT);
        for (int k : NO_IMAGES) {
            CHECK.due("image " + k, x.image(k), Check.BAD);
        }
        CHECK.due("none was kept", x.restore(0), Check.STATE);
        CHECK.due("nor here", x.restore(1), Check.STATE);
    }

    static void promise23_noCourtIsState() {
        AlphaCourt x = new AlphaCourt();
        CHECK.due("image 0", x.image(0), Check.STATE);
        CHECK.due("image 1", x.image(1), Check.STATE);
        CHECK.due("none was kept", x.restore(0), Check.STATE);
    }

    static void promise23_badComesAheadOfState() {
        AlphaCourt x = new AlphaCourt();
        for (int k : NO_IMAGES) {
            CHECK.due("image " + k, x.image(k), Check.BAD);
        }
    }

    static void promise23_bothAreKeptApart() {
        AlphaCourt x = Check.courtOf(SHORT);
        CHECK.due("image 0", x.image(0), 1);
        x.days(3);
        CHECK.due("image 1", x.image(1), 1);
        x.days(4);
        CHECK.due("the first", dayOf(x, 0), 0);
        CHECK.due("the second", dayOf(x, 1), 3);
    }

    static void promise23_keptAnewInPlaceOfTheOneBefore() {
        AlphaCourt x = Check.courtOf(SHORT);
        x.image(0);
        x.image(1);
        x.days(3);
        CHECK.due("again", x.image(0), 1);
        x.days(1);
        CHECK.due("the later one", dayOf(x, 0), 3);
        CHECK.due("the other one stays", dayOf(x, 1), 0);
    }

    static void promise23_aCourtOfNobodyIsKept() {
        AlphaCourt x = Check.courtOf(HEAD);
        CHECK.due("image", x.image(0), 1);
        Check.read(x, MIXED);
        CHECK.due("restore", x.restore(0), 1);
        CHECK.due("nobody", x.count(1), 0);
        CHECK.due("waited", x.waited(), 0);
    }

    static void promise23_nothingChangesByIt() {
        AlphaCourt x = Check.courtOf(MIXED);
        x.days(3);
        x.lose(2, 1);
        String before = Check.image(x);
        x.image(0);
        x.image(1);
        x.image(2);
        CHECK.dueSame("kept", x, before);
        CHECK.due("acts can be undone", x.undo(), 3);
    }

    static void promise23_laterActsDoNotTouchIt() {
        AlphaCourt x = Check.courtOf(MIXED);
        x.days(1);
        x.image(0);
        x.restore(0);
        String before = Check.image(x);
        x.forge(0, 0, 7);
        x.lose(3, 1);
        x.days(20);
        x.restore(0);
        CHECK.dueSame("restored", x, before);
    }

    // ---- restore

    static void promise24_noSuchImageIsBad() {
        AlphaCourt x = Check.courtOf(SHORT);
        x.image(0);
        x.image(1);
        x.days(1);
        for (int k : NO_IMAGES) {
            CHECK.due("restore " + k, x.restore(k), Check.BAD);
        }
        CHECK.due("the day", x.count(4), 1);
        CHECK.due("without a COURT, too", new AlphaCourt().restore(2), Check.BAD);
    }

    static void promise24_noneKeptIsState() {
        AlphaCourt x = new AlphaCourt();
        CHECK.due("new", x.restore(0), Check.STATE);
        Check.read(x, SHORT);
        CHECK.due("a COURT, none kept", x.restore(0), Check.STATE);
        x.image(1);
        CHECK.due("only the other one", x.restore(0), Check.STATE);
        CHECK.due("that one", x.restore(1), 1);
    }

    static void promise24_refusedChangesNothing() {
        AlphaCourt x = Check.courtOf(MIXED);
        x.days(3);
        x.forge(0, 0, 7);
        String before = Check.image(x);
        x.restore(0);
        x.restore(1);
        x.restore(2);
        x.restore(-1);
        CHECK.dueSame("refused", x, before);
    }

    static void promise24_noActCanBeUndoneThen() {
        AlphaCourt x = Check.courtOf(SHORT);
        x.days(3);
        x.image(0);
        CHECK.due("acts ahead", x.count(8), 3);
        x.days(1);
        x.restore(0);
        CHECK.due("acts", x.count(8), 0);
        CHECK.due("undo", x.undo(), Check.STATE);
        x.days(1);
        CHECK.due("acts anew", x.count(8), 1);
        CHECK.due("undone", x.undo(), 0);
        CHECK.due("the day", x.count(4), 3);
    }

    static void promise24_restoredAtOnceForgetsTheActsToo() {
        AlphaCourt x = Check.courtOf(SHORT);
        x.days(2);
        x.image(1);
        x.restore(1);
        CHECK.due("the day", x.count(4), 2);
        CHECK.due("undo", x.undo(), Check.STATE);
    }

    static void promise24_allIsAsItWasKept() {
        AlphaCourt x = Check.courtOf(MIXED);
        x.forge(0, 1, 6);
        x.lose(7, 1);
        x.days(3);
        x.image(0);
        x.restore(0);
        String before = Check.image(x);
        Check.read(x, SHORT);
        x.days(5);
        CHECK.due("restore", x.restore(0), 1);
        CHECK.dueSame("restored", x, before);
    }

    static void promise24_restoredDaysGoOnFromThere() {
        AlphaCourt x = Check.courtOf(MIXED);
        AlphaCourt straight = Check.courtOf(MIXED);
        x.days(3);
        x.image(0);
        x.days(20);
        x.restore(0);
        straight.days(3);
        straight.image(0);
        straight.restore(0);
        CHECK.due("who wait", x.days(4), straight.days(4));
        CHECK.dueSame("as if nothing had been", x, Check.image(straight));
    }

    static void promise24_anImageStaysAndIsRestoredAgain() {
        AlphaCourt x = Check.courtOf(SHORT);
        x.days(1);
        x.image(0);
        for (int k = 0; k < 3; k++) {
            x.days(5);
            x.lose(0, 1);
            CHECK.due("the day", dayOf(x, 0), 1);
            CHECK.due("found", x.count(7), 0);
            CHECK.due("it serves", x.person(0, 3), 1);
        }
    }

    static void promise24_anImageOutlivesItsCourt() {
        AlphaCourt x = Check.courtOf(MIXED);
        x.image(1);
        Check.read(x, SHORT);
        Check.read(x, "w1,0;oaa;");
        CHECK.due("restore", x.restore(1), 1);
        CHECK.due("people", x.count(1), 5);
        CHECK.due("seats", x.count(2), 2);
        CHECK.due("turns", x.count(3), 2);
        CHECK.due("the first letter", x.order(0), 2);
        CHECK.due("the fault is told on", x.fault(), 2);
    }

    static void promise24_onlyTheCourtIsRestored() {
        AlphaCourt x = Check.courtOf(MIXED);
        x.image(0);
        x.row(0, 0, 3);
        x.feed('w');
        x.ask(0, 0);
        x.set(1, 0, 0);
        x.restore(0);
        CHECK.due("rows", x.count(0), 1);
        CHECK.due("bytes", x.count(9), 1);
        CHECK.due("status", x.status(), 1);
        CHECK.due("trace", x.trace(0), 11);
    }

    static void promise24_fromDay999() {
        AlphaCourt x = Check.courtOf(SHORT);
        x.image(0);
        for (int k = 0; k < 49; k++) {
            x.days(20);
        }
        x.days(19);
        x.image(1);
        CHECK.due("full", x.days(1), Check.FULL);
        CHECK.due("back to 0", dayOf(x, 0), 0);
        CHECK.due("days go by", x.days(1), 0);
        CHECK.due("and to 999", dayOf(x, 1), 999);
        CHECK.due("full again", x.days(1), Check.FULL);
        CHECK.due("none can be undone", x.undo(), Check.STATE);
    }
}
