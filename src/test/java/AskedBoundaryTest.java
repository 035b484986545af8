/** The boundary cases of promises 25 to 30: kind, as, ask, trace, count, status. */
public final class AskedBoundaryTest {
    private static final Check CHECK = new Check();
    private static final int LEAST = Integer.MIN_VALUE, MOST = Integer.MAX_VALUE;
    private static final String HEAD = "w1,0;o;";
    private static final String ALL_KINDS = HEAD + "pabc7,9;qab5,9;rabcd30,9;sa4,9;tab6,9;";
    private static final int[] NO_PEOPLE_OF_5 = {-1, 5, 6, LEAST, MOST};

    public static void main(String[] args) throws ReflectiveOperationException {
        Boundaries.runAll(AskedBoundaryTest.class, CHECK, 25, 26, 27, 28, 29, 30);
    }

    // ---- kind

    static void promise25_noSuchPersonIsBad() {
        AlphaCourt x = Check.courtOf(ALL_KINDS);
        for (int person : NO_PEOPLE_OF_5) {
            CHECK.due("person " + person, x.kind(person), Check.BAD);
        }
        CHECK.due("nobody", Check.courtOf(HEAD).kind(0), Check.BAD);
        CHECK.due("no COURT", new AlphaCourt().kind(0), Check.BAD);
    }

    static void promise25_kinds1To5() {
        AlphaCourt x = Check.courtOf(ALL_KINDS);
        for (int person = 0; person < 5; person++) {
            CHECK.due("person " + person, x.kind(person), person + 1);
        }
        x.days(20);
        for (int person = 0; person < 5; person++) {
            CHECK.due("in any state, person " + person, x.kind(person), person + 1);
        }
    }

    // ---- as

    static void promise26_noSuchPersonIsBad() {
        AlphaCourt x = Check.courtOf(ALL_KINDS);
        for (int person : NO_PEOPLE_OF_5) {
            CHECK.due("person " + person, x.as(person, 0), Check.BAD);
        }
        CHECK.due("no COURT", new AlphaCourt().as(0, 0), Check.BAD);
    }

    static void promise26_noSuchKindIsBad() {
        AlphaCourt x = Check.courtOf(ALL_KINDS);
        for (int kind : new int[] {-1, 6, LEAST, MOST}) {
            CHECK.due("kind " + kind, x.as(0, kind), Check.BAD);
        }
    }

    static void promise26_badLeavesTheStatus() {
        AlphaCourt x = Check.courtOf(ALL_KINDS);
        x.as(0, 5);
        x.as(0, 6);
        x.as(5, 0);
        CHECK.due("status", x.status(), 3);
    }

    static void promise26_eachIsThoseKindsAlone() {
        AlphaCourt x = Check.courtOf(ALL_KINDS);
        String[] kindsOf = {"01", "012", "013", "04", "045"};
        for (int person = 0; person < 5; person++) {
            for (int kind = 0; kind < 6; kind++) {
                boolean is = kindsOf[person].indexOf('0' + kind) >= 0;
                CHECK.due(person + " as " + kind, x.as(person, kind), is ? person : Check.KIND);
                CHECK.due("status of " + person + " as " + kind, x.status(), is ? 0 : 3);
            }
        }
    }

    static void promise26_foundChangesNothingElse() {
        AlphaCourt x = Check.courtOf(ALL_KINDS);
        x.days(1);
        x.ask(0, 0);
        x.as(0, 5);
        String before = Check.image(x);
        CHECK.due("no noble one", x.as(0, 2), Check.KIND);
        CHECK.due("no saint", x.as(2, 4), Check.KIND);
        CHECK.dueSame("found", x, before);
    }

    // ---- ask

    private static void dueAsk(String text, int person, int what, int want, int... trace) {
        AlphaCourt x = Check.courtOf(text);
        CHECK.due("ask of " + person + " " + what, x.ask(person, what), want);
        CHECK.dueAll("trace of " + person + " " + what, Check.traceOf(x), trace);
    }

    static void promise27_noSuchPersonIsBad() {
        AlphaCourt x = Check.courtOf(ALL_KINDS);
        for (int person : NO_PEOPLE_OF_5) {
            CHECK.due("person " + person, x.ask(person, 0), Check.BAD);
        }
        CHECK.due("no COURT", new AlphaCourt().ask(0, 0), Check.BAD);
    }

    static void promise27_noSuchAskIsBad() {
        AlphaCourt x = Check.courtOf(ALL_KINDS);
        for (int what : new int[] {-1, 2, LEAST, MOST}) {
            CHECK.due("what " + what, x.ask(0, what), Check.BAD);
        }
    }

    static void promise27_badLeavesTheTrace() {
        AlphaCourt x = Check.courtOf(ALL_KINDS);
        x.ask(4, 1);
        x.ask(0, 2);
        x.ask(5, 0);
        CHECK.dueAll("trace", Check.traceOf(x), 23, 20, 14, 13, 10);
    }

    static void promise27_theTraceIsEmptyAheadOfIt() {
        AlphaCourt x = Check.courtOf(ALL_KINDS);
        x.ask(1, 0);
        CHECK.due("the longest", Check.traceOf(x).length, 6);
        x.ask(0, 1);
        CHECK.dueAll("the next one alone", Check.traceOf(x), 21, 20);
        x.ask(0, 1);
        CHECK.dueAll("and again", Check.traceOf(x), 21, 20);
    }

    static void promise27_sizeOfEachKind() {
        dueAsk(ALL_KINDS, 0, 0, 7 + 3, 11, 10, 21, 20);
        dueAsk(ALL_KINDS, 1, 0, -(5 + 2 * (1 + 2)), 12, 11, 10, 24, 21, 20);
        dueAsk(ALL_KINDS, 2, 0, 30 + 2 + 4 - 1000, 11, 10, 22, 21, 20);
        dueAsk(ALL_KINDS, 3, 0, 4 - 100, 13, 10);
        dueAsk(ALL_KINDS, 4, 0, 2 * (6 - 100), 14, 13, 10);
    }

    static void promise27_markOfEachKind() {
        dueAsk(ALL_KINDS, 0, 1, 3, 21, 20);
        dueAsk(ALL_KINDS, 1, 1, 2 * (1 + 2), 24, 21, 20);
        dueAsk(ALL_KINDS, 2, 1, 2 + 4 - 1000, 22, 21, 20);
        dueAsk(ALL_KINDS, 3, 1, 3 - (4 - 100), 23, 20, 13, 10);
        dueAsk(ALL_KINDS, 4, 1, 4 - 2 * (6 - 100), 23, 20, 14, 13, 10);
    }

    static void promise27_theLeastAndTheMostOfEach() {
        String least = HEAD + "pa1,9;";
        dueAsk(least, 0, 0, 1 + 0 + 1, 11, 10, 21, 20);
        String most = HEAD + "pa1,9;".repeat(5);
        dueAsk(most + "qabcd30,9;", 5, 0, -(30 + 2 * (5 + 4)), 12, 11, 10, 24, 21, 20);
        dueAsk(most + "rabcd30,9;", 5, 1, 5 + 4 - 1000, 22, 21, 20);
        dueAsk(most + "tabcd30,9;", 5, 1, 5 - 2 * (30 - 100), 23, 20, 14, 13, 10);
        dueAsk(most + "ta1,9;", 5, 0, 2 * (1 - 100), 14, 13, 10);
    }

    static void promise27_nothingElseChanges() {
        AlphaCourt x = Check.courtOf(ALL_KINDS);
        x.days(1);
        x.set(0, 0, 0);
        x.ask(0, 0);
        String before = Check.image(x);
        x.ask(4, 1);
        CHECK.due("status", x.status(), 1);
        x.ask(0, 0);
        CHECK.dueSame("asked", x, before);
    }

    // ---- trace

    static void promise28_noSuchPlaceIsNone() {
        AlphaCourt x = Check.courtOf(ALL_KINDS);
        x.ask(1, 0);
        for (int i : new int[] {-1, 6, 15, 16, 17, LEAST, MOST}) {
            CHECK.due("place " + i, x.trace(i), Check.NONE);
        }
        CHECK.due("the first", x.trace(0), 12);
        CHECK.due("the last", x.trace(5), 20);
    }

    static void promise28_emptyBeforeAnAsk() {
        AlphaCourt x = new AlphaCourt();
        for (int i : new int[] {-1, 0, 1, 15, 16}) {
            CHECK.due("new, place " + i, x.trace(i), Check.NONE);
        }
        Check.read(x, ALL_KINDS);
        CHECK.due("a court read", x.trace(0), Check.NONE);
        x.ask(0, 2);
        CHECK.due("a BAD ask", x.trace(0), Check.NONE);
    }

    static void promise28_behindAShorterOneNothingIsLeft() {
        AlphaCourt x = Check.courtOf(ALL_KINDS);
        x.ask(1, 0);
        x.ask(3, 0);
        CHECK.due("its last", x.trace(1), 10);
        CHECK.due("no more", x.trace(2), Check.NONE);
        CHECK.due("nor there", x.trace(5), Check.NONE);
    }

    static void promise28_itStaysTillTheNextAsk() {
        AlphaCourt x = Check.courtOf(ALL_KINDS);
        x.ask(3, 0);
        x.days(3);
        x.as(0, 1);
        x.kind(0);
        CHECK.dueAll("trace", Check.traceOf(x), 13, 10);
    }

    // ---- count

    static void promise29_noSuchWhatIsBad() {
        AlphaCourt x = Check.courtOf(ALL_KINDS);
        for (int what : new int[] {-1, 10, LEAST, MOST}) {
            CHECK.due("what " + what, x.count(what), Check.BAD);
            CHECK.due("no COURT, what " + what, new AlphaCourt().count(what), Check.BAD);
        }
    }

    static void promise29_noneWithoutACourt() {
        AlphaCourt x = new AlphaCourt();
        for (int what = 0; what < 10; what++) {
            CHECK.due("what " + what, x.count(what), 0);
        }
        x.row(0, 0, 0);
        x.feed('w');
        CHECK.due("rows", x.count(0), 1);
        CHECK.due("bytes", x.count(9), 1);
    }

    static void promise29_theMostOfEach() {
        AlphaCourt x = Check.courtOf("w4,30;o;" + "pabcd30,99;".repeat(6));
        for (int row = 0; row < 8; row++) {
            x.row(row, 2, 40);
        }
        for (int letter = 0; letter < 8; letter++) {
            x.lose(letter, 1);
        }
        CHECK.due("who wait", x.count(5), 6);
        for (int letter = 0; letter < 8; letter++) {
            x.lose(letter, 0);
        }
        x.days(20);
        for (int letter = 0; letter < 8; letter++) {
            x.lose(letter, 1);
        }
        for (int k = 0; k < 120; k++) {
            x.feed('w');
        }
        int[] want = {8, 6, 4, 30, 20, 2, 4, 255, 24, 120};
        for (int what = 0; what < 10; what++) {
            CHECK.due("what " + what, x.count(what), want[what]);
        }
        for (int k = 0; k < 48; k++) {
            x.days(20);
        }
        x.days(19);
        CHECK.due("the last day", x.count(4), 999);
        CHECK.due("acts", x.count(8), 24);
        CHECK.due("nobody waits", x.count(5), 0);
        CHECK.due("nobody serves", x.count(6), 0);
    }

    static void promise29_rowsMadeTwiceAndDropped() {
        AlphaCourt x = new AlphaCourt();
        x.row(0, 0, 1);
        x.row(0, 1, 2);
        CHECK.due("once", x.count(0), 1);
        x.row(7, 1, 0);
        CHECK.due("an empty row is one", x.count(0), 2);
        x.drop(0);
        CHECK.due("dropped", x.count(0), 1);
        x.drop(0);
        CHECK.due("missing already", x.count(0), 1);
    }

    static void promise29_waitAndServeOnTheDaysOfChange() {
        AlphaCourt x = Check.courtOf(HEAD + "pa1,9;pb1,3;pc1,3;");
        int[] wait = {3, 2, 1, 0, 0};
        int[] serve = {0, 1, 1, 0, 0};
        for (int day = 0; day < wait.length; day++) {
            CHECK.due("wait on day " + day, x.count(5), wait[day]);
            CHECK.due("serve on day " + day, x.count(6), serve[day]);
            x.days(1);
        }
    }

    static void promise29_refusedChangesNothing() {
        AlphaCourt x = Check.courtOf(ALL_KINDS);
        x.days(1);
        String before = Check.image(x);
        x.count(-1);
        x.count(10);
        CHECK.dueSame("refused", x, before);
    }

    // ---- status

    static void promise30_noneBeforeSuchACall() {
        AlphaCourt x = new AlphaCourt();
        CHECK.due("new", x.status(), 0);
        x.row(8, 0, 0);
        x.set(-1, 0, 0);
        x.ledger(0, 0, 0);
        x.feed(256);
        CHECK.due("only refused ones", x.status(), 0);
    }

    static void promise30_findings1To5() {
        AlphaCourt x = Check.courtOf(ALL_KINDS);
        CHECK.due("NULL", x.set(0, 0, 0), -1000011);
        CHECK.due("1", x.status(), 1);
        x.row(0, 0, 1);
        CHECK.due("PLACE", x.set(0, 1, 0), -1000012);
        CHECK.due("2", x.status(), 2);
        CHECK.due("KIND", x.as(0, 5), -1000013);
        CHECK.due("3", x.status(), 3);
        CHECK.due("SIZE", x.row(0, 0, -1), -1000014);
        CHECK.due("4", x.status(), 4);
        x.row(1, 1, 1);
        CHECK.due("STORE", x.copy(0, 0, 1, 0, 1), -1000015);
        CHECK.due("5", x.status(), 5);
    }

    private static AlphaCourt withFinding() {
        AlphaCourt x = Check.courtOf(ALL_KINDS);
        x.row(0, 0, 6);
        x.as(0, 5);
        return x;
    }

    static void promise30_aCallWithoutOneIs0() {
        AlphaCourt row = withFinding();
        row.row(1, 0, 0);
        CHECK.due("row", row.status(), 0);
        AlphaCourt set = withFinding();
        set.set(0, 0, 0);
        CHECK.due("set", set.status(), 0);
        AlphaCourt copy = withFinding();
        copy.copy(0, 0, 0, 0, 0);
        CHECK.due("copy", copy.status(), 0);
        AlphaCourt drop = withFinding();
        drop.drop(0);
        CHECK.due("drop", drop.status(), 0);
        AlphaCourt ledger = withFinding();
        ledger.ledger(0, 0, 0);
        CHECK.due("ledger", ledger.status(), 0);
        AlphaCourt as = withFinding();
        as.as(0, 0);
        CHECK.due("as", as.status(), 0);
    }

    static void promise30_aFindingOfEachCallIsTold() {
        AlphaCourt x = withFinding();
        x.row(0, 0, -1);
        CHECK.due("row", x.status(), 4);
        x.set(1, 0, 0);
        CHECK.due("set", x.status(), 1);
        x.copy(0, 0, 0, 0, 7);
        CHECK.due("copy", x.status(), 2);
        x.drop(1);
        CHECK.due("drop", x.status(), 1);
        x.ledger(0, 7, 0);
        CHECK.due("ledger", x.status(), 2);
        x.ledger(1, 0, 0);
        CHECK.due("ledger of none", x.status(), 1);
        x.as(0, 2);
        CHECK.due("as", x.status(), 3);
    }

    static void promise30_badLeavesIt() {
        AlphaCourt x = withFinding();
        x.row(8, 0, 0);
        x.row(0, 3, 0);
        x.row(0, 0, 41);
        x.set(8, 0, 0);
        x.copy(8, 0, 0, 0, 0);
        x.copy(0, 0, 8, 0, 0);
        x.drop(8);
        x.ledger(8, 0, 0);
        x.ledger(0, 0, 7);
        x.as(5, 0);
        x.as(0, 6);
        CHECK.due("status", x.status(), 3);
        x.set(0, 0, 9);
        x.as(0, 5);
        CHECK.due("an item that is none", x.ledger(0, 0, 1), Check.BAD);
        CHECK.due("status", x.status(), 3);
    }

    static void promise30_stateLeavesIt() {
        AlphaCourt x = new AlphaCourt();
        x.set(0, 0, 0);
        CHECK.due("no COURT", x.ledger(0, 0, 0), Check.STATE);
        CHECK.due("status", x.status(), 1);
    }

    static void promise30_otherCallsLeaveIt() {
        AlphaCourt x = withFinding();
        x.feed('w');
        x.court();
        Check.read(x, ALL_KINDS.replace("5,9", "5,30"));
        x.fault();
        x.days(1);
        x.forge(2, 0, 7);
        x.lose(7, 1);
        x.undo();
        x.person(0, 0);
        x.name(0, 0);
        x.order(0);
        x.when(0, 0);
        x.waited();
        x.last(1, -1);
        x.best(0);
        x.warden(0);
        x.frees(0);
        x.image(0);
        x.restore(0);
        x.kind(0);
        x.ask(0, 0);
        x.trace(0);
        x.count(0);
        CHECK.due("status", x.status(), 3);
        CHECK.due("and again", x.status(), 3);
    }

    static void promise30_otherCallsRefusedLeaveIt() {
        AlphaCourt x = withFinding();
        x.days(0);
        x.forge(0, 0, 1);
        x.lose(8, 1);
        x.undo();
        x.person(9, 0);
        x.name(0, 9);
        x.order(9);
        x.when(0, 9);
        x.last(9, 0);
        x.best(9);
        x.warden(9);
        x.frees(9);
        x.image(9);
        x.restore(1);
        x.kind(9);
        x.ask(9, 0);
        x.trace(99);
        x.count(99);
        CHECK.due("status", x.status(), 3);
    }

    static void promise30_ofSeveralTheFirstInTime() {
        AlphaCourt x = Check.courtOf(ALL_KINDS);
        x.row(0, 0, 1);
        x.row(1, 1, 1);
        x.copy(0, 5, 2, 0, 1);
        CHECK.due("NULL ahead of PLACE", x.status(), 1);
        x.copy(0, 5, 1, 0, -1);
        CHECK.due("STORE ahead of PLACE", x.status(), 5);
        x.copy(2, 0, 1, 0, 1);
        CHECK.due("NULL ahead of STORE", x.status(), 1);
    }
}
