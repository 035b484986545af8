/** The boundary cases of promises 1 and 6 to 8: a new object, feed, court, fault; and of the texts told ahead of them. */
public final class CourtsBoundaryTest {
    private static final Check CHECK = new Check();
    private static final int LEAST = Integer.MIN_VALUE, MOST = Integer.MAX_VALUE;
    private static final int FAULT_AT_0 = -1000100;
    private static final String HEAD = "w1,0;o;";
    private static final String SIX = HEAD + "pa1,1;qa1,1;ra1,1;sa1,1;ta1,1;pb1,1;";
    /** Every part as long as it can be. */
    private static final String LONGEST = "w04,30;oabcdefgh;" + "pabcd30,99;".repeat(6);

    public static void main(String[] args) throws ReflectiveOperationException {
        Boundaries.runAll(CourtsBoundaryTest.class, CHECK, 1, 6, 7, 8);
    }

    private static void dueFault(String text, int place, int number) {
        AlphaCourt x = new AlphaCourt();
        CHECK.due("court of " + text, Check.read(x, text), FAULT_AT_0 - place);
        CHECK.due("fault of " + text, x.fault(), number);
        CHECK.due("no COURT by " + text, x.waited(), Check.STATE);
    }

    private static void dueRead(String text, int people) {
        AlphaCourt x = new AlphaCourt();
        CHECK.due("court of " + text, Check.read(x, text), people);
        CHECK.due("people of " + text, x.count(1), people);
        CHECK.due("fault of " + text, x.fault(), 0);
    }

    private static void dueOrder(String letters, int... want) {
        CHECK.dueAll("order o" + letters, Check.orderOf(Check.courtOf("w1,0;o" + letters + ";")), want);
    }

    // ---- a new object

    static void promise01_refusalsAreTheNumbersTold() {
        CHECK.due("NONE", AlphaCourt.NONE, -1000000);
        CHECK.due("BAD", AlphaCourt.BAD, -1000001);
        CHECK.due("STATE", AlphaCourt.STATE, -1000002);
        CHECK.due("FULL", AlphaCourt.FULL, -1000003);
    }

    static void promise01_noCourtIsState() {
        AlphaCourt x = new AlphaCourt();
        CHECK.due("days", x.days(1), Check.STATE);
        CHECK.due("lose", x.lose(0, 1), Check.STATE);
        CHECK.due("order", x.order(0), Check.STATE);
        CHECK.due("waited", x.waited(), Check.STATE);
        CHECK.due("best", x.best(0), Check.STATE);
        CHECK.due("warden", x.warden(0), Check.STATE);
        CHECK.due("frees", x.frees(0), Check.STATE);
        x.row(0, 0, 1);
        CHECK.due("ledger", x.ledger(0, 0, 0), Check.STATE);
        CHECK.due("image", x.image(0), Check.STATE);
    }

    static void promise01_noPeopleIsBad() {
        AlphaCourt x = new AlphaCourt();
        CHECK.due("forge", x.forge(0, 0, 0), Check.BAD);
        CHECK.due("person", x.person(0, 0), Check.BAD);
        CHECK.due("name", x.name(0, 0), Check.BAD);
        CHECK.due("when", x.when(0, 0), Check.BAD);
        CHECK.due("last", x.last(0, -1), Check.BAD);
        CHECK.due("kind", x.kind(0), Check.BAD);
        CHECK.due("as", x.as(0, 0), Check.BAD);
        CHECK.due("ask", x.ask(0, 0), Check.BAD);
    }

    static void promise01_nothingIsThere() {
        AlphaCourt x = new AlphaCourt();
        for (int what = 0; what < 10; what++) {
            CHECK.due("count " + what, x.count(what), 0);
        }
        CHECK.due("fault", x.fault(), 0);
        CHECK.due("status", x.status(), 0);
        CHECK.due("trace", x.trace(0), Check.NONE);
        CHECK.due("undo", x.undo(), Check.STATE);
        CHECK.due("image 0", x.restore(0), Check.STATE);
        CHECK.due("image 1", x.restore(1), Check.STATE);
    }

    static void promise01_objectsShareNothing() {
        AlphaCourt old = Check.courtOf(SIX);
        old.days(1);
        old.image(0);
        old.row(0, 0, 3);
        old.set(1, 0, 0);
        old.ask(0, 0);
        old.feed('w');
        AlphaCourt x = new AlphaCourt();
        CHECK.due("rows", x.count(0), 0);
        CHECK.due("people", x.count(1), 0);
        CHECK.due("acts", x.count(8), 0);
        CHECK.due("bytes", x.count(9), 0);
        CHECK.due("image", x.restore(0), Check.STATE);
        CHECK.due("status", x.status(), 0);
        CHECK.due("trace", x.trace(0), Check.NONE);
    }

    // ---- feed

    static void promise06_bytes0To255Come() {
        AlphaCourt x = new AlphaCourt();
        CHECK.due("0", x.feed(0), 1);
        CHECK.due("255", x.feed(255), 2);
        CHECK.due("128", x.feed(128), 3);
        CHECK.due("bytes", x.count(9), 3);
    }

    static void promise06_whatIsNoByteIsBad() {
        AlphaCourt x = new AlphaCourt();
        x.feed('w');
        for (int letter : new int[] {-1, 256, 256 + 'w', -256, LEAST, MOST}) {
            CHECK.due("feed " + letter, x.feed(letter), Check.BAD);
        }
        CHECK.due("bytes", x.count(9), 1);
        CHECK.due("nothing came: the end", x.court(), FAULT_AT_0 - 1);
    }

    static void promise06_120BytesComeThenItIsFull() {
        AlphaCourt x = new AlphaCourt();
        for (int i = 1; i <= 120; i++) {
            CHECK.due("byte " + i, x.feed('w'), i);
        }
        CHECK.due("one more", x.feed('w'), Check.FULL);
        CHECK.due("and again", x.feed(0), Check.FULL);
        CHECK.due("bytes", x.count(9), 120);
    }

    static void promise06_badComesAheadOfFull() {
        AlphaCourt x = new AlphaCourt();
        for (int i = 0; i < 120; i++) {
            x.feed('w');
        }
        CHECK.due("-1", x.feed(-1), Check.BAD);
        CHECK.due("256", x.feed(256), Check.BAD);
    }

    static void promise06_fullLeavesTheTape() {
        AlphaCourt x = new AlphaCourt();
        String text = HEAD + "x".repeat(113);
        for (int i = 0; i < 120; i++) {
            x.feed(text.charAt(i));
        }
        CHECK.due("full", x.feed('x'), Check.FULL);
        CHECK.due("the first bytes are those told", x.court(), FAULT_AT_0 - 7);
    }

    static void promise06_afterAFullTapeBytesComeAgain() {
        AlphaCourt x = new AlphaCourt();
        for (int i = 0; i < 121; i++) {
            x.feed('w');
        }
        x.court();
        CHECK.due("the first", x.feed('w'), 1);
        for (int i = 2; i <= 120; i++) {
            CHECK.due("byte " + i, x.feed('1'), i);
        }
        CHECK.due("full again", x.feed('1'), Check.FULL);
    }

    // ---- court: what can be read

    static void promise07_noPeopleAreACourt() {
        AlphaCourt x = new AlphaCourt();
        CHECK.due("nobody", Check.read(x, HEAD), 0);
        CHECK.due("a COURT stands", x.waited(), 0);
    }

    static void promise07_sixPeopleAreACourt() {
        dueRead(SIX, 6);
    }

    static void promise07_theLongestTextIsRead() {
        CHECK.due("its bytes", LONGEST.length(), 83);
        dueRead(LONGEST, 6);
    }

    static void promise07_seats1And4AreRead() {
        CHECK.due("1", Check.courtOf("w1,0;o;").count(2), 1);
        CHECK.due("4", Check.courtOf("w4,0;o;").count(2), 4);
        dueFault("w0,0;o;", 1, 2);
        dueFault("w00,0;o;", 1, 2);
        dueFault("w5,0;o;", 1, 2);
        dueFault("w99,0;o;", 1, 2);
    }

    static void promise07_turns0And30AreRead() {
        CHECK.due("0", Check.courtOf("w1,0;o;").count(3), 0);
        CHECK.due("30", Check.courtOf("w1,30;o;").count(3), 30);
        dueFault("w1,31;o;", 3, 2);
        dueFault("w1,99;o;", 3, 2);
    }

    static void promise07_terms1And30AreRead() {
        AlphaCourt x = Check.courtOf(HEAD + "pa1,9;pa30,9;");
        CHECK.due("1", x.person(0, 0), 1);
        CHECK.due("30", x.person(1, 0), 30);
        dueFault(HEAD + "pa0,9;", 9, 2);
        dueFault(HEAD + "pa00,9;", 9, 2);
        dueFault(HEAD + "pa31,9;", 9, 2);
        dueFault(HEAD + "pa99,9;", 9, 2);
    }

    static void promise07_lives1And99AreRead() {
        AlphaCourt x = Check.courtOf(HEAD + "pa1,1;pa1,99;");
        CHECK.due("1", x.person(0, 1), 1);
        CHECK.due("99", x.person(1, 1), 99);
        dueFault(HEAD + "pa1,0;", 11, 2);
        dueFault(HEAD + "pa1,00;", 11, 2);
    }

    static void promise07_names1To4LettersAreRead() {
        AlphaCourt x = Check.courtOf(HEAD + "ph1,9;pabcd1,9;");
        CHECK.due("1", x.person(0, 2), 1);
        CHECK.due("h", x.name(0, 0), 7);
        CHECK.due("4", x.person(1, 2), 4);
        CHECK.due("the last", x.name(1, 3), 3);
    }

    static void promise07_namelessPeopleToldWithoutANameAreFault1() {
        dueFault(HEAD + "t1,9;", 8, 1);
        dueFault(HEAD + "p1,9;", 8, 1);
    }

    static void promise07_fifthLetterOfANameIsFault1() {
        dueFault(HEAD + "pabcda1,9;", 12, 1);
        dueFault(HEAD + "taaaaa1,9;", 12, 1);
    }

    static void promise07_orderOfNoneIsTheAlphabet() {
        dueOrder("", 0, 1, 2, 3, 4, 5, 6, 7);
    }

    static void promise07_orderOfAllEightIsRead() {
        dueOrder("hgfedcba", 7, 6, 5, 4, 3, 2, 1, 0);
        dueOrder("badcfehg", 1, 0, 3, 2, 5, 4, 7, 6);
    }

    static void promise07_lettersNotToldComeBehind() {
        dueOrder("h", 7, 0, 1, 2, 3, 4, 5, 6);
        dueOrder("a", 0, 1, 2, 3, 4, 5, 6, 7);
        dueOrder("gc", 6, 2, 0, 1, 3, 4, 5, 7);
        dueOrder("hgfedcb", 7, 6, 5, 4, 3, 2, 1, 0);
    }

    static void promise07_orderIsToldAnewByEachCourt() {
        AlphaCourt x = Check.courtOf("w1,0;ohgfedcba;");
        Check.read(x, "w1,0;oc;");
        CHECK.dueAll("order", Check.orderOf(x), 2, 0, 1, 3, 4, 5, 6, 7);
    }

    static void promise07_letterToldTwiceIsFault2() {
        dueFault("w1,0;oaa;", 7, 2);
        dueFault("w1,0;oabcdefgha;", 14, 2);
        dueFault("w1,0;oabcdefghh;", 14, 2);
        dueFault("w1,0;ohabcdefh;", 13, 2);
    }

    static void promise07_lettersBehindHAreFault1() {
        dueFault("w1,0;oi;", 6, 1);
        dueFault("w1,0;oz;", 6, 1);
        dueFault(HEAD + "pi1,9;", 8, 1);
        dueFault(HEAD + "pai1,9;", 9, 1);
        dueFault(HEAD + "pabcdi1,9;", 12, 1);
    }

    static void promise07_noSuchSortIsFault1() {
        dueFault(HEAD + "o", 7, 1);
        dueFault(HEAD + "ua1,9;", 7, 1);
        dueFault(HEAD + "aa1,9;", 7, 1);
        dueFault(HEAD + "w", 7, 1);
        dueRead(HEAD + "pa1,9;", 1);
        dueRead(HEAD + "ta1,9;", 1);
    }

    static void promise07_numbersOfTwoFiguresMayBeginWith0() {
        AlphaCourt x = Check.courtOf("w01,00;o;pa01,09;");
        CHECK.due("seats", x.count(2), 1);
        CHECK.due("turns", x.count(3), 0);
        CHECK.due("term", x.person(0, 0), 1);
        CHECK.due("life", x.person(0, 1), 9);
    }

    static void promise07_threeFiguresAreNoToken() {
        dueFault("w001,0;o;", 1, 1);
        dueFault("w1,000;o;", 3, 1);
        dueFault(HEAD + "pa001,1;", 9, 1);
        dueFault(HEAD + "pa1,100;", 11, 1);
        dueFault("w" + "1".repeat(119), 1, 1);
    }

    static void promise07_nothingElseIsAToken() {
        for (int other : new int[] {0, 9, 10, ' ', '+', '-', '.', '/', ':', 'A', 'W', '_', '{', 127, 128, 255}) {
            dueFault((char) other + HEAD, 0, 1);
            dueFault("w" + (char) other + "1,0;o;", 1, 1);
            dueFault("w1,0;o" + (char) other + ";", 6, 1);
            dueFault(HEAD + (char) other, 7, 1);
            dueFault(HEAD + "pa1,1;" + (char) other, 13, 1);
        }
    }

    // ---- court: the end, and room

    static void promise07_emptyTapeIsFault1At0() {
        dueFault("", 0, 1);
    }

    static void promise07_theEndIsAtHowManyBytesThereAre() {
        String text = "w2,30;ohgb;pabcd30,99;qa1,2;";
        for (int bytes = 0; bytes <= text.length(); bytes++) {
            String part = text.substring(0, bytes);
            if (bytes == 11 || bytes == 22 || bytes == 28) {
                dueRead(part, bytes == 11 ? 0 : bytes == 22 ? 1 : 2);
            } else {
                dueFault(part, bytes, 1);
            }
        }
    }

    static void promise07_seventhPersonIsFault3AtItsLetter() {
        for (char sort = 'p'; sort <= 't'; sort++) {
            dueFault(SIX + sort + "a1,1;", SIX.length(), 3);
        }
        dueFault(SIX + "p", SIX.length(), 3);
        dueFault(LONGEST + "p", 83, 3);
    }

    static void promise07_behindSixPeopleOnlyTheEndCanStand() {
        dueFault(SIX + ";", SIX.length(), 1);
        dueFault(SIX + "a", SIX.length(), 1);
        dueFault(SIX + "1", SIX.length(), 1);
        dueFault(SIX + "u", SIX.length(), 1);
    }

    static void promise07_firstTokenWithAFaultIsTold() {
        dueFault("w5,31;oaa;", 1, 2);
        dueFault("w1,31;oaa;", 3, 2);
        dueFault("w1,0;oaa;x", 7, 2);
        dueFault(HEAD + "pa31,0;", 9, 2);
        dueFault(HEAD + "pa1,0", 11, 2);
        dueFault(SIX + "pa99,0;", SIX.length(), 3);
        dueFault("w1,0;o;pa1,1;x5", 13, 1);
    }

    static void promise07_aNumberIsToldByItsFirstByte() {
        dueFault("w1,31;o;", 3, 2);
        dueFault(HEAD + "pabc31,1;", 11, 2);
        dueFault("w1,0;o12;", 6, 1);
    }

    // ---- court: what it leaves

    static void promise07_theTapeIsEmptyThen() {
        AlphaCourt x = new AlphaCourt();
        Check.read(x, SIX);
        CHECK.due("read", x.count(9), 0);
        CHECK.due("nothing is left to read", x.court(), FAULT_AT_0);
        Check.read(x, "w1,0;x");
        CHECK.due("a fault", x.count(9), 0);
        CHECK.due("nothing is left of it", Check.read(x, HEAD), 0);
    }

    static void promise07_byAFaultAllStays() {
        String[] faults = {"", "w1,0;oaa;", "w4,7;ohg;pa1,2;x", SIX + "p", "w3,3;ogf;sh9,9;pa31,1;"};
        int[] numbers = {1, 2, 1, 3, 2};
        for (int k = 0; k < faults.length; k++) {
            AlphaCourt x = Check.courtOf("w2,3;oh;rab1,40;pb2,40;qcd3,40;");
            x.days(4);
            x.lose(3, 1);
            x.ask(0, 0);
            x.as(0, 2);
            Check.read(x, "w");
            String before = Check.image(x);
            CHECK.isTrue("a fault", Check.read(x, faults[k]) <= FAULT_AT_0);
            CHECK.due("its number", x.fault(), numbers[k]);
            Check.read(x, "w");
            CHECK.dueSame("court of " + faults[k], x, before);
            CHECK.due("undone", x.undo(), 4);
            CHECK.due("found", x.count(7), 0);
        }
    }

    static void promise07_byAFaultThereIsStillNoCourt() {
        AlphaCourt x = new AlphaCourt();
        Check.read(x, SIX + "p");
        CHECK.due("people", x.count(1), 0);
        CHECK.due("seats", x.count(2), 0);
        CHECK.due("waiting", x.count(5), 0);
        CHECK.due("image", x.image(0), Check.STATE);
        CHECK.due("person", x.person(0, 0), Check.BAD);
    }

    static void promise07_aCourtStandsInPlaceOfTheOneBefore() {
        AlphaCourt x = Check.courtOf("w4,3;oh;" + "rabcd9,50;".repeat(6));
        x.days(20);
        x.lose(3, 1);
        x.forge(4, 0, 7);
        CHECK.due("another", Check.read(x, "w1,0;o;qb2,30;pc3,31;"), 2);
        int[] want = {0, 2, 1, 0, 0, 2, 0, 0, 0, 0};
        for (int what = 0; what < 10; what++) {
            CHECK.due("count " + what, x.count(what), want[what]);
        }
        CHECK.due("undo", x.undo(), Check.STATE);
        CHECK.dueAll("terms", Check.ofAll(x, 0), 2, 3);
        CHECK.dueAll("lives", Check.ofAll(x, 1), 30, 31);
        CHECK.dueAll("letters", Check.ofAll(x, 2), 1, 1);
        CHECK.dueAll("all WAIT", Check.ofAll(x, 3), 0, 0);
        CHECK.due("its kind", x.kind(0), 2);
        CHECK.due("its letter", x.name(0, 0), 1);
        CHECK.due("no more letters", x.name(0, 1), Check.BAD);
        CHECK.due("no more people", x.person(2, 0), Check.BAD);
        CHECK.due("waited", x.waited(), 1 + 3);
    }

    /** What was foretold for the one before, or tried for it, must not be left in the new one. */
    static void promise07_aCourtStandsInPlaceOfOneThatWasForetold() {
        AlphaCourt x = Check.courtOf("w2,1;oh;rab9,50;pb9,50;qcd9,50;pe9,50;");
        x.days(5);
        x.lose(4, 1);
        x.lose(1, 1);
        x.row(0, 0, 0);
        x.ledger(0, 0, 0);
        x.drop(0);
        x.last(3, -1);
        x.best(0);
        x.warden(-2);
        x.waited();
        Check.read(x, "w1,0;o;qb2,30;pc3,31;pe1,32;");
        CHECK.dueSame("read", x, Check.image(Check.courtOf("w1,0;o;qb2,30;pc3,31;pe1,32;")));
    }

    static void promise07_theSameTextReadAgainBeginsAnew() {
        AlphaCourt x = Check.courtOf(SIX.replace("1,1", "1,9"));
        String before = Check.image(x);
        x.days(3);
        x.lose(1, 1);
        Check.read(x, SIX.replace("1,1", "1,9"));
        CHECK.dueSame("read again", x, before);
    }

    // ---- fault

    static void promise08_noneBeforeAFault() {
        AlphaCourt x = new AlphaCourt();
        CHECK.due("new", x.fault(), 0);
        Check.read(x, HEAD);
        CHECK.due("read", x.fault(), 0);
        x.days(0);
        x.set(0, 0, 0);
        x.feed(256);
        CHECK.due("refusals are no FAULTS", x.fault(), 0);
    }

    static void promise08_faults1To3() {
        AlphaCourt x = new AlphaCourt();
        Check.read(x, "x");
        CHECK.due("cannot stand there", x.fault(), 1);
        Check.read(x, "w5");
        CHECK.due("not as told", x.fault(), 2);
        Check.read(x, SIX + "p");
        CHECK.due("no room", x.fault(), 3);
    }

    static void promise08_theLatestIsTold() {
        AlphaCourt x = new AlphaCourt();
        Check.read(x, SIX + "p");
        Check.read(x, "w5");
        CHECK.due("2 behind 3", x.fault(), 2);
        x.court();
        CHECK.due("1 behind 2", x.fault(), 1);
    }

    static void promise08_itStaysAsLongAsThereIsNoOther() {
        AlphaCourt x = new AlphaCourt();
        Check.read(x, "w5");
        Check.read(x, HEAD);
        CHECK.due("a COURT is read", x.fault(), 2);
        x.days(1);
        x.undo();
        x.image(0);
        x.restore(0);
        CHECK.due("other calls", x.fault(), 2);
    }

    static void promise08_ofOneTokenTheLeastIsTold() {
        dueFault("w1,0;o99;", 6, 1);
        dueFault("w1,0;99;", 5, 1);
        dueFault("w999,0;o;", 1, 1);
        dueFault("w1,0;oai;", 7, 1);
        dueFault(SIX + "i", SIX.length(), 1);
        dueFault(SIX + "999", SIX.length(), 1);
    }
}
