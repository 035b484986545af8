/** The boundary cases of promises 16 to 22: when, waited, last, best, warden, frees, ledger. */
public final class ForetoldBoundaryTest {
    private static final Check CHECK = new Check();
    private static final int LEAST = Integer.MIN_VALUE, MOST = Integer.MAX_VALUE;
    private static final String HEAD = "w1,0;o;";
    private static final String MIXED = "w1,2;oc;rab2,9;pb2,4;qcd1,30;ta1,3;sh1,20;";

    public static void main(String[] args) throws ReflectiveOperationException {
        Boundaries.runAll(ForetoldBoundaryTest.class, CHECK, 16, 17, 18, 19, 20, 21, 22);
    }

    private static AlphaCourt withLost(String text, int... letters) {
        AlphaCourt x = Check.courtOf(text);
        for (int letter : letters) {
            CHECK.due("lose", x.lose(letter, 1), 1);
        }
        return x;
    }

    private static void dueWhen(AlphaCourt x, int person, int seated, int free, int dead) {
        CHECK.due("seated " + person, x.when(person, 0), seated);
        CHECK.due("free " + person, x.when(person, 1), free);
        CHECK.due("dead " + person, x.when(person, 2), dead);
    }

    private static void dueSeated(AlphaCourt x, int person, int seated, int free) {
        dueWhen(x, person, seated, free, Check.NONE);
    }

    private static void dueDead(AlphaCourt x, int person, int dead) {
        dueWhen(x, person, Check.NONE, Check.NONE, dead);
    }

    // ---- when

    static void promise16_noSuchPersonIsBad() {
        AlphaCourt x = Check.courtOf(HEAD + "pa1,9;pb1,9;");
        for (int person : new int[] {-1, 2, 6, LEAST, MOST}) {
            CHECK.due("person " + person, x.when(person, 0), Check.BAD);
        }
        CHECK.due("nobody", Check.courtOf(HEAD).when(0, 0), Check.BAD);
        CHECK.due("no COURT", new AlphaCourt().when(0, 0), Check.BAD);
    }

    static void promise16_noSuchWhatIsBad() {
        AlphaCourt x = Check.courtOf(HEAD + "pa1,9;");
        for (int what : new int[] {-1, 3, LEAST, MOST}) {
            CHECK.due("what " + what, x.when(0, what), Check.BAD);
        }
    }

    static void promise16_whoIsSeatedIsNeverDead() {
        dueSeated(Check.courtOf(HEAD + "pa30,2;"), 0, 1, 31);
    }

    static void promise16_whoIsDeadIsNeverSeatedNorFree() {
        AlphaCourt x = Check.courtOf(HEAD + "pa30,9;pb1,31;pc1,99;");
        dueDead(x, 1, 31);
        dueSeated(x, 2, 31, 32);
    }

    static void promise16_life1IsDeadOnDay1() {
        dueDead(Check.courtOf(HEAD + "pa1,1;"), 0, 1);
    }

    static void promise16_life99IsDeadOnDay99() {
        dueDead(withLost(HEAD + "pa1,99;", 0), 0, 99);
        AlphaCourt x = Check.courtOf(HEAD + "pa30,99;pb30,99;pc30,99;pd8,99;pe1,99;");
        dueSeated(x, 3, 91, 99);
        dueDead(x, 4, 99);
    }

    static void promise16_seatedOnTheDayBeforeLife() {
        AlphaCourt x = Check.courtOf(HEAD + "pa30,99;pb30,99;pc30,99;pd7,99;pe30,99;");
        dueSeated(x, 4, 98, 128);
    }

    static void promise16_toldIfItHasBeen() {
        AlphaCourt x = Check.courtOf(HEAD + "pa5,99;pb1,5;pc30,99;");
        for (int day = 0; day <= 40; day += 10) {
            dueSeated(x, 0, 1, 6);
            dueDead(x, 1, 5);
            dueSeated(x, 2, 6, 36);
            x.days(10);
        }
        for (int k = 0; k < 47; k++) {
            x.days(20);
        }
        x.days(9);
        CHECK.due("the day", x.count(4), 999);
        dueSeated(x, 0, 1, 6);
        dueDead(x, 1, 5);
        dueSeated(x, 2, 6, 36);
    }

    static void promise16_onTheVeryDay() {
        AlphaCourt x = Check.courtOf(HEAD + "pa2,99;pb1,3;");
        x.days(1);
        dueSeated(x, 0, 1, 3);
        x.days(2);
        dueSeated(x, 0, 1, 3);
        dueDead(x, 1, 3);
    }

    static void promise16_aSeatThatStayedFreeIsTakenOnTheNextDay() {
        AlphaCourt x = withLost(HEAD + "pa1,99;", 0);
        x.days(20);
        dueDead(x, 0, 99);
        x.lose(0, 0);
        dueSeated(x, 0, 21, 22);
    }

    static void promise16_lostLettersAreAsTheyAreToday() {
        AlphaCourt x = withLost(HEAD + "pab3,50;pc1,50;", 1);
        dueDead(x, 0, 50);
        dueSeated(x, 1, 1, 2);
        x.lose(1, 0);
        dueSeated(x, 0, 1, 4);
        dueSeated(x, 1, 4, 5);
    }

    static void promise16_theOrderOfEachDayToComeTells() {
        AlphaCourt x = Check.courtOf("w1,2;o;pa3,50;pb1,50;pc1,50;pd1,50;");
        dueSeated(x, 0, 1, 4);
        dueSeated(x, 2, 4, 5);
        dueSeated(x, 3, 5, 6);
        dueSeated(x, 1, 6, 7);
    }

    static void promise16_nothingChanges() {
        AlphaCourt x = Check.courtOf(MIXED);
        x.days(1);
        String before = Check.image(x);
        for (int person = -1; person < 6; person++) {
            for (int what = -1; what < 4; what++) {
                x.when(person, what);
            }
        }
        CHECK.dueSame("foretold", x, before);
    }

    // ---- waited

    static void promise17_noCourtIsState() {
        AlphaCourt x = new AlphaCourt();
        CHECK.due("new", x.waited(), Check.STATE);
        Check.read(x, "w1,0;oaa;");
        CHECK.due("a fault", x.waited(), Check.STATE);
    }

    static void promise17_nobodyWaited() {
        CHECK.due("nobody", Check.courtOf(HEAD).waited(), 0);
    }

    static void promise17_daysFrom0OnAreAdded() {
        CHECK.due("one", Check.courtOf(HEAD + "pa1,99;").waited(), 1);
        CHECK.due("two", Check.courtOf(HEAD + "pa30,99;pb1,99;").waited(), 1 + 31);
        AlphaCourt x = Check.courtOf(HEAD + "pa30,99;pb1,99;");
        x.days(20);
        CHECK.due("from 0 on, not from today", x.waited(), 1 + 31);
        x.days(20);
        CHECK.due("when all has been", x.waited(), 1 + 31);
    }

    static void promise17_theDeadWaitedTillTheyDied() {
        CHECK.due("all dead", withLost("w4,0;o;" + "pa1,99;".repeat(6), 0).waited(), 6 * 99);
        CHECK.due("dead on day 1", Check.courtOf(HEAD + "pa1,1;pb1,1;").waited(), 2);
        AlphaCourt x = Check.courtOf(HEAD + "pa30,99;pb1,5;");
        CHECK.due("one of two", x.waited(), 1 + 5);
        x.days(20);
        CHECK.due("when it has been", x.waited(), 1 + 5);
    }

    static void promise17_mostOfAll() {
        AlphaCourt x = withLost("w1,0;o;" + "pa1,99;".repeat(6), 0);
        for (int k = 0; k < 49; k++) {
            x.days(20);
        }
        x.days(19);
        CHECK.due("on day 999", x.waited(), 6 * 99);
    }

    static void promise17_nothingChanges() {
        AlphaCourt x = Check.courtOf(MIXED);
        x.days(1);
        String before = Check.image(x);
        x.waited();
        CHECK.dueSame("foretold", x, before);
    }

    // ---- last

    private static void dueLast(AlphaCourt x, int person, int many, int... name) {
        CHECK.due("how many " + person, x.last(person, -1), many);
        for (int place = 0; place < name.length; place++) {
            CHECK.due("letter of " + person + " at " + place, x.last(person, place), name[place]);
        }
    }

    static void promise18_noSuchPersonIsBad() {
        AlphaCourt x = Check.courtOf(HEAD + "pa1,9;pb1,9;");
        for (int person : new int[] {-1, 2, 6, LEAST, MOST}) {
            CHECK.due("person " + person, x.last(person, -1), Check.BAD);
        }
        CHECK.due("no COURT", new AlphaCourt().last(0, -1), Check.BAD);
    }

    static void promise18_noSuchPlaceIsBad() {
        AlphaCourt x = Check.courtOf(HEAD + "pabcd1,9;pb1,9;");
        for (int place : new int[] {-2, 4, LEAST, MOST}) {
            CHECK.due("of four, place " + place, x.last(0, place), Check.BAD);
        }
        for (int place : new int[] {-2, 1, 3}) {
            CHECK.due("of one, place " + place, x.last(1, place), Check.BAD);
        }
    }

    static void promise18_whoDoesNotWaitIsNone() {
        AlphaCourt x = Check.courtOf(HEAD + "pa1,9;pb30,9;pc1,3;pd1,99;");
        x.days(3);
        for (int person = 0; person < 3; person++) {
            dueLast(x, person, Check.NONE, Check.NONE);
        }
        dueLast(x, 3, 0, 3);
    }

    static void promise18_badComesAheadOfNone() {
        AlphaCourt x = Check.courtOf(HEAD + "pa1,9;");
        x.days(1);
        CHECK.due("who serves, place 1", x.last(0, 1), Check.BAD);
        CHECK.due("who serves, place -2", x.last(0, -2), Check.BAD);
        AlphaCourt y = Check.courtOf(HEAD + "ta1,9;pb1,9;");
        CHECK.due("who can't be, place 1", y.last(0, 1), Check.BAD);
    }

    static void promise18_whoWaitsAloneIsLast() {
        dueLast(Check.courtOf(HEAD + "tab1,9;"), 0, 0, 0, 1);
        AlphaCourt x = Check.courtOf(HEAD + "pa30,9;ph1,3;pb1,50;");
        x.days(3);
        dueLast(x, 2, 0, 1);
    }

    static void promise18_whoIsLastAlreadyChangesNone() {
        dueLast(Check.courtOf(HEAD + "pab1,9;pba1,9;"), 1, 0, 1, 0);
        dueLast(Check.courtOf(HEAD + "phhhh1,9;phhhh1,9;"), 1, 0, 7, 7, 7, 7);
    }

    static void promise18_noNameIsLateEnoughIsNone() {
        AlphaCourt x = Check.courtOf(HEAD + "pa1,9;phh1,9;");
        dueLast(x, 0, Check.NONE, Check.NONE);
        dueLast(Check.courtOf(HEAD + "pa1,9;ph1,9;"), 0, Check.NONE, Check.NONE);
        dueLast(Check.courtOf(HEAD + "ph1,9;pa1,9;"), 1, 1, 7);
    }

    static void promise18_nobodyGetsBehindASaintOrANamelessOneBehindAnother() {
        AlphaCourt x = Check.courtOf(HEAD + "phh1,9;sa1,9;thh1,9;");
        dueLast(x, 0, Check.NONE, Check.NONE, Check.NONE);
        dueLast(x, 1, 0, 0);
        dueLast(x, 2, Check.NONE, Check.NONE, Check.NONE);
        dueLast(Check.courtOf(HEAD + "ta1,9;tc1,9;"), 0, 1, 3);
        dueLast(Check.courtOf(HEAD + "sa1,9;sc1,9;th1,9;"), 0, 1, 3);
    }

    static void promise18_asManyLettersAsThereAre() {
        dueLast(Check.courtOf(HEAD + "phhhh1,9;raaaa1,9;"), 1, 4, 7, 7, 7, 7);
        dueLast(Check.courtOf(HEAD + "phhhg1,9;raaaa1,9;"), 0, 0, 7, 7, 7, 6);
        dueLast(Check.courtOf(HEAD + "phhh1,9;paaaa1,9;"), 1, 3, 7, 7, 7, 0);
    }

    static void promise18_ofSixAndOfFewerThanBefore() {
        AlphaCourt x = Check.courtOf(HEAD + "pa1,9;pb1,9;pc1,9;pd1,9;pe1,9;ph1,9;");
        dueLast(x, 0, Check.NONE, Check.NONE);
        dueLast(x, 5, 0, 7);
        Check.read(x, HEAD + "pa1,9;pb1,9;");
        dueLast(x, 0, 1, 2);
        dueLast(x, 1, 0, 1);
    }

    static void promise18_theFewestTheFirstByLetters() {
        dueLast(Check.courtOf(HEAD + "pabc1,9;pbcd1,9;"), 0, 1, 2, 1, 2);
        dueLast(Check.courtOf(HEAD + "pbaa1,9;pbba1,9;"), 0, 1, 1, 2, 0);
        dueLast(Check.courtOf("w1,0;ohgfedcba;pd1,9;pc1,9;"), 0, 1, 0);
        dueLast(Check.courtOf("w1,0;ohgfedcba;pd1,9;pe1,9;"), 1, 1, 0);
    }

    static void promise18_likeNamesByNumbers() {
        dueLast(Check.courtOf(HEAD + "pb1,9;pc1,9;"), 0, 1, 3);
        dueLast(Check.courtOf(HEAD + "pc1,9;pb1,9;"), 1, 1, 2);
    }

    static void promise18_todayTells() {
        AlphaCourt x = withLost("w1,1;o;pa1,50;ph1,50;pb1,50;", 0, 1, 7);
        dueLast(x, 0, Check.NONE);
        dueLast(x, 1, 0, 7);
        x.days(1);
        dueLast(x, 0, 0, 0);
        dueLast(x, 1, 1, 0);
        x.days(7);
        dueLast(x, 0, Check.NONE);
        dueLast(x, 1, 0, 7);
    }

    static void promise18_aNobleOneFromBehind() {
        AlphaCourt x = Check.courtOf(HEAD + "qaaab1,9;pdeee1,9;");
        dueLast(x, 0, 1, 0, 0, 0, 4);
    }

    static void promise18_nothingChanges() {
        AlphaCourt x = Check.courtOf(MIXED);
        String before = Check.image(x);
        for (int person = -1; person < 6; person++) {
            for (int place = -2; place < 5; place++) {
                x.last(person, place);
            }
        }
        CHECK.dueSame("foretold", x, before);
    }

    // ---- best

    static void promise19_noCourtIsStateAheadOfBad() {
        AlphaCourt x = new AlphaCourt();
        for (int what : new int[] {0, 1, -1, 2, LEAST, MOST}) {
            CHECK.due("what " + what, x.best(what), Check.STATE);
        }
    }

    static void promise19_noSuchWhatIsBad() {
        AlphaCourt x = Check.courtOf(HEAD + "pa1,9;");
        for (int what : new int[] {-1, 2, LEAST, MOST}) {
            CHECK.due("what " + what, x.best(what), Check.BAD);
        }
    }

    private static void dueBest(AlphaCourt x, int turns, int waited) {
        CHECK.due("by how much", x.best(0), turns);
        CHECK.due("waited then", x.best(1), waited);
    }

    static void promise19_ofSeveralTheLeast() {
        dueBest(Check.courtOf(HEAD), 0, 0);
        dueBest(Check.courtOf(HEAD + "pa1,9;"), 0, 1);
        dueBest(Check.courtOf(HEAD + "pa1,99;pb9,99;"), 0, 1 + 2);
        dueBest(Check.courtOf(HEAD + "pa9,99;pc1,99;"), 1, 1 + 2);
    }

    static void promise19_allEightTurnsAreTried() {
        String letters = "abcdefgh";
        for (int turns = 1; turns < 8; turns++) {
            String text = HEAD + "p" + letters.charAt(turns - 1) + "9,99;p" + letters.charAt(turns) + "1,99;";
            dueBest(Check.courtOf(text), turns, 1 + 2);
        }
    }

    static void promise19_besidesTheTurnsOfTheDays() {
        AlphaCourt x = Check.courtOf("w1,1;o;pb9,99;pd1,99;");
        dueBest(x, 1, 1 + 2);
        AlphaCourt round = Check.courtOf("w1,1;o;ph9,99;pa1,99;");
        dueBest(round, 7, 1 + 2);
    }

    static void promise19_whatHasBeenIsToldAsItWas() {
        AlphaCourt x = Check.courtOf(HEAD + "pa9,99;pc1,99;pb3,99;");
        x.days(1);
        dueBest(x, 2, 1 + 10 + 11);
        x.days(20);
        dueBest(x, 0, 1 + 10 + 13);
    }

    static void promise19_lostLettersAreStillLost() {
        dueBest(withLost(HEAD + "pa9,99;pc1,99;", 2), 0, 1 + 99);
    }

    static void promise19_nothingChanges() {
        AlphaCourt x = Check.courtOf(MIXED);
        x.days(1);
        String before = Check.image(x);
        x.best(0);
        x.best(1);
        x.best(2);
        CHECK.dueSame("foretold", x, before);
    }

    // ---- warden

    private static void dueWarden(String text, int waited, int... row) {
        dueWarden(Check.courtOf(text), waited, row);
    }

    private static void dueWarden(AlphaCourt x, int waited, int... row) {
        for (int place = 0; place < 6; place++) {
            CHECK.due("place " + place, x.warden(place), place < row.length ? row[place] : Check.NONE);
        }
        CHECK.due("waited", x.warden(-1), waited);
        CHECK.due("by how much less", x.warden(-2), x.waited() - waited);
    }

    static void promise20_noCourtIsStateAheadOfBad() {
        AlphaCourt x = new AlphaCourt();
        for (int what : new int[] {0, 5, -1, -2, -3, 6, LEAST, MOST}) {
            CHECK.due("what " + what, x.warden(what), Check.STATE);
        }
    }

    static void promise20_noSuchWhatIsBad() {
        AlphaCourt x = Check.courtOf(HEAD + "pa1,9;".repeat(6));
        for (int what : new int[] {-3, 6, LEAST, MOST}) {
            CHECK.due("what " + what, x.warden(what), Check.BAD);
        }
    }

    static void promise20_notSoManyIsNone() {
        dueWarden(HEAD, 0);
        dueWarden(HEAD + "pa1,9;", 1, 0);
        dueWarden(HEAD + "pa1,9;".repeat(6), 1 + 2 + 3 + 4 + 5 + 6, 0, 1, 2, 3, 4, 5);
    }

    static void promise20_onlyWhoWaitNowAreInTheRow() {
        AlphaCourt x = Check.courtOf(HEAD + "pa2,99;pb9,99;pc1,2;pd1,99;");
        x.days(2);
        dueWarden(x, 1 + 4 + 2 + 3, 3, 1);
        x.days(20);
        dueWarden(x, 1 + 3 + 2 + 12);
    }

    static void promise20_ofSeveralTheFirstByNumbers() {
        dueWarden("w2,0;o;pc5,99;pb5,99;pa5,99;", 1 + 1 + 6, 0, 1, 2);
        dueWarden("w4,0;ohgfedcba;pa1,99;pb2,99;pc3,99;pd4,99;", 4, 0, 1, 2, 3);
        dueWarden(HEAD + "pb3,99;pa2,99;pc2,99;", 1 + 3 + 5, 1, 2, 0);
    }

    static void promise20_whoIsDeadByThenIsPassedOver() {
        dueWarden(HEAD + "pa30,99;pb1,3;", 1 + 2, 1, 0);
        dueWarden(HEAD + "pa30,99;pb30,3;", 1 + 3, 0, 1);
        dueWarden(HEAD + "pb1,2;pa1,50;pc1,50;", 1 + 2 + 2, 1, 0, 2);
        dueWarden(HEAD + "pa1,1;pb1,1;", 1 + 1, 0, 1);
    }

    static void promise20_seatedOnTheDayBeforeLife() {
        dueWarden(HEAD + "pa1,3;pb2,99;", 1 + 2, 0, 1);
        dueWarden(HEAD + "pa5,99;pb4,4;pc3,5;", 1 + 4 + 4, 2, 0, 1);
    }

    static void promise20_lostLettersDoNotMatter() {
        dueWarden(withLost(HEAD + "pa1,99;pb2,99;", 0), 1 + 2, 0, 1);
        dueWarden(withLost(HEAD + "pa1,99;pb2,99;", 0, 1, 2, 3, 4, 5, 6, 7), 1 + 2, 0, 1);
    }

    static void promise20_byHowMuchLess() {
        CHECK.due("as good", Check.courtOf(HEAD + "pa1,99;pb2,99;").warden(-2), 0);
        CHECK.due("better", Check.courtOf(HEAD + "pa9,99;pb1,99;").warden(-2), 1 + 10 - 3);
        CHECK.due("all lost", withLost(HEAD + "pa1,99;pb1,99;", 0, 1).warden(-2), 2 * 99 - 3);
        CHECK.due("nobody", Check.courtOf(HEAD).warden(-2), 0);
    }

    static void promise20_asSeatsGetFree() {
        AlphaCourt x = Check.courtOf("w2,0;o;pa9,99;pb4,99;pc3,99;pd1,99;");
        x.days(1);
        dueWarden(x, 1 + 1 + 5 + 6, 3, 2);
        AlphaCourt late = withLost("w3,0;o;pa9,99;pb4,99;pc3,99;", 0, 1, 2);
        late.days(20);
        dueWarden(late, 3 * 21, 0, 1, 2);
    }

    static void promise20_oneByOneOnSeveralSeats() {
        dueWarden("w2,0;o;pa5,99;pb2,99;pc4,99;pd1,99;", 1 + 1 + 2 + 3, 1, 3, 0, 2);
        dueWarden("w3,0;o;pa1,99;pb9,99;pc9,99;pd9,99;pe2,9;", 1 + 1 + 1 + 2 + 3, 0, 1, 4, 2, 3);
        dueWarden("w4,0;o;pa4,99;pb3,99;pc2,99;pd1,99;pe9,99;pf9,3;", 1 + 1 + 1 + 1 + 2 + 3, 0, 1, 2, 3, 4, 5);
        dueWarden("w2,0;o;pa9,99;pb9,99;pc1,3;pd1,4;", 1 + 1 + 2 + 2, 2, 3, 0, 1);
    }

    static void promise20_nothingChanges() {
        AlphaCourt x = Check.courtOf(MIXED);
        x.days(1);
        String before = Check.image(x);
        for (int what = -3; what < 7; what++) {
            x.warden(what);
        }
        CHECK.dueSame("foretold", x, before);
    }

    // ---- frees

    static void promise21_noCourtIsStateAheadOfBad() {
        AlphaCourt x = new AlphaCourt();
        for (int what : new int[] {0, 1, -1, 2, LEAST, MOST}) {
            CHECK.due("what " + what, x.frees(what), Check.STATE);
        }
    }

    static void promise21_noSuchWhatIsBad() {
        AlphaCourt x = Check.courtOf(HEAD + "pa1,9;");
        for (int what : new int[] {-1, 2, LEAST, MOST}) {
            CHECK.due("what " + what, x.frees(what), Check.BAD);
        }
    }

    private static void dueFrees(AlphaCourt x, int letter, int many) {
        CHECK.due("letter", x.frees(0), letter);
        CHECK.due("how many", x.frees(1), many);
    }

    static void promise21_nobodyWouldBePassedOver() {
        dueFrees(Check.courtOf(HEAD), 0, 0);
        AlphaCourt x = Check.courtOf(HEAD + "ph1,9;");
        x.days(1);
        dueFrees(x, 0, 0);
    }

    static void promise21_eachLetterCanBeIt() {
        for (int letter = 0; letter < 8; letter++) {
            char c = (char) ('a' + letter);
            dueFrees(Check.courtOf(HEAD + "p" + c + "1,9;"), letter, 1);
        }
    }

    static void promise21_ofSeveralTheFirst() {
        dueFrees(Check.courtOf(HEAD + "phb1,9;pbh1,9;pg1,9;"), 1, 2);
        dueFrees(Check.courtOf("w1,0;ohgfedcba;pdcb1,9;"), 1, 1);
    }

    static void promise21_allSix() {
        dueFrees(Check.courtOf(HEAD + "pah1,9;pbh1,9;qhc1,9;rdh1,9;sh1,9;tabch1,9;"), 7, 6);
    }

    static void promise21_aLetterTwiceInANameCountsOnce() {
        dueFrees(Check.courtOf(HEAD + "pcccc1,9;pd1,9;pd1,9;"), 3, 2);
    }

    static void promise21_onlyWhoWaitNow() {
        AlphaCourt x = Check.courtOf(HEAD + "pa2,99;pab9,99;pc1,2;pcd1,99;");
        dueFrees(x, 0, 2);
        x.days(2);
        dueFrees(x, 0, 1);
        x.days(1);
        dueFrees(x, 2, 1);
    }

    static void promise21_noneOtherIsLost() {
        dueFrees(withLost(HEAD + "pab1,9;pb1,9;pc1,9;", 0, 1, 2), 1, 2);
    }

    static void promise21_nothingChanges() {
        AlphaCourt x = Check.courtOf(MIXED);
        x.days(1);
        x.lose(3, 1);
        String before = Check.image(x);
        x.frees(0);
        x.frees(1);
        x.frees(2);
        CHECK.dueSame("foretold", x, before);
    }

    // ---- ledger

    private static AlphaCourt withRow(String text, int... items) {
        AlphaCourt x = Check.courtOf(text);
        putRow(x, items);
        return x;
    }

    private static void putRow(AlphaCourt x, int... items) {
        x.row(0, 2, items.length);
        for (int i = 0; i < items.length; i++) {
            x.set(0, i, items[i]);
        }
    }

    static void promise22_noCourtIsStateAheadOfBad() {
        AlphaCourt x = new AlphaCourt();
        putRow(x, 0, 1);
        for (int row : new int[] {0, 1, -1, 8, LEAST, MOST}) {
            for (int n : new int[] {0, 1, -1, 7}) {
                CHECK.due("row " + row + ", n " + n, x.ledger(row, 0, n), Check.STATE);
            }
        }
    }

    static void promise22_noSuchRowIsBad() {
        AlphaCourt x = withRow(HEAD + "pa1,9;", 0);
        for (int row : new int[] {-1, 8, LEAST, MOST}) {
            CHECK.due("row " + row, x.ledger(row, 0, 1), Check.BAD);
        }
    }

    static void promise22_fewerThanNoneAndMoreThanSixAreBad() {
        AlphaCourt x = withRow("w4,0;o;" + "pa1,9;".repeat(6), new int[8]);
        for (int n : new int[] {-1, 7, LEAST, MOST}) {
            CHECK.due("n " + n, x.ledger(0, 0, n), Check.BAD);
        }
        CHECK.due("none", x.ledger(0, 0, 0), 0);
        CHECK.due("six", x.ledger(0, 0, 6), 0);
    }

    static void promise22_badComesAheadOfNull() {
        AlphaCourt x = Check.courtOf(HEAD + "pa1,9;");
        CHECK.due("n 7", x.ledger(1, 0, 7), Check.BAD);
        CHECK.due("n -1", x.ledger(1, 0, -1), Check.BAD);
        CHECK.due("no finding", x.status(), 0);
    }

    static void promise22_missingRowIsNull() {
        AlphaCourt x = Check.courtOf(HEAD + "pa1,9;");
        CHECK.due("n 1", x.ledger(0, 0, 1), Check.NULL);
        CHECK.due("status", x.status(), 1);
        CHECK.due("n 0", x.ledger(7, 0, 0), Check.NULL);
        CHECK.due("ahead of PLACE", x.ledger(0, -1, 1), Check.NULL);
    }

    static void promise22_noSuchPlaceIsPlace() {
        AlphaCourt x = withRow(HEAD + "pa1,9;", 0, 0);
        int[][] places = {{-1, 1}, {-1, 0}, {LEAST, 0}, {2, 1}, {1, 2}, {0, 3}, {3, 0}, {MOST, 0}, {MOST, 1}, {MOST, 6}};
        for (int[] p : places) {
            x.set(0, 0, 0);
            CHECK.due("from " + p[0] + ", " + p[1], x.ledger(0, p[0], p[1]), Check.PLACE);
            CHECK.due("status", x.status(), 2);
        }
    }

    static void promise22_upToTheEnd() {
        AlphaCourt x = withRow(HEAD + "pa1,9;", 1, 0);
        CHECK.due("the last item", x.ledger(0, 1, 1), 255);
        CHECK.due("none at the end", x.ledger(0, 2, 0), 0);
        x.row(1, 0, 0);
        CHECK.due("none of an empty row", x.ledger(1, 0, 0), 0);
        CHECK.due("one of an empty row", x.ledger(1, 0, 1), Check.PLACE);
    }

    static void promise22_placeComesAheadOfAnItemThatIsNone() {
        AlphaCourt x = withRow(HEAD + "pa1,9;", 5, -1);
        CHECK.due("beyond the end", x.ledger(0, 1, 2), Check.PLACE);
        CHECK.due("ahead of the first", x.ledger(0, -1, 2), Check.PLACE);
    }

    static void promise22_anItemThatIsNoneOfThePeopleIsBad() {
        for (int item : new int[] {-1, 2, 6, LEAST, MOST}) {
            AlphaCourt x = withRow("w2,0;o;pa1,9;pb1,9;", item, 0, 1, item);
            CHECK.due("the first of two", x.ledger(0, 0, 2), Check.BAD);
            CHECK.due("the last of two", x.ledger(0, 2, 2), Check.BAD);
            CHECK.due("the items beside are not looked at", x.ledger(0, 1, 2), 0b11111111 - 0b10);
        }
    }

    static void promise22_suchAnItemLeavesTheStatus() {
        AlphaCourt x = withRow(HEAD + "pa1,9;", 7);
        x.set(0, 9, 0);
        CHECK.due("BAD", x.ledger(0, 0, 1), Check.BAD);
        CHECK.due("status of the call before", x.status(), 2);
        x.set(0, 0, 0);
        CHECK.due("all right", x.ledger(0, 0, 1), 255);
        CHECK.due("no finding", x.status(), 0);
    }

    static void promise22_itemsOfAllLanesAreRead() {
        AlphaCourt x = Check.courtOf(HEAD + "pa1,9;pb1,9;");
        for (int lane = 0; lane < 3; lane++) {
            x.row(lane, lane, 1);
            x.set(lane, 0, 1);
            CHECK.due("lane " + lane, x.ledger(lane, 0, 1), 0b10);
        }
    }

    static void promise22_nobodyIsSeatedNext() {
        AlphaCourt nobody = withRow(HEAD, new int[0]);
        CHECK.due("nobody there", nobody.ledger(0, 0, 0), 255);
        AlphaCourt full = withRow(HEAD + "pa9,99;pb9,99;", 1);
        CHECK.due("one is", full.ledger(0, 0, 0), 0);
        full.days(1);
        CHECK.due("no seat is free", full.ledger(0, 0, 0), 255);
        CHECK.due("so nobody takes it", full.ledger(0, 0, 1), 0);
        AlphaCourt dead = withRow(HEAD + "pa1,1;", 0);
        CHECK.due("it dies ahead of it", dead.ledger(0, 0, 0), 255);
        AlphaCourt lost = withLost(HEAD + "pa1,9;", 0);
        lost.row(0, 0, 0);
        CHECK.due("passed over", lost.ledger(0, 0, 0), 255);
    }

    static void promise22_neitherFewerNorMoreNorOthers() {
        AlphaCourt x = withRow("w2,0;o;pa9,99;pb9,99;pc9,99;", 0, 1, 2, 0, 0);
        CHECK.due("a", x.ledger(0, 0, 1), 0);
        CHECK.due("a b", x.ledger(0, 0, 2), 0b11111001);
        CHECK.due("a b c", x.ledger(0, 0, 3), 0);
        CHECK.due("waited", x.waited(), 1 + 1 + 10);
        CHECK.due("a b c, though all are seated later", x.ledger(0, 0, 3), 0);
        CHECK.due("b c", x.ledger(0, 1, 2), 0b10);
        CHECK.due("c a", x.ledger(0, 2, 2), 0b100);
        CHECK.due("a a", x.ledger(0, 3, 2), 0);
    }

    static void promise22_oneBehindAnother() {
        AlphaCourt x = withRow("w4,0;o;pd9,99;pc9,99;pb9,99;pa9,99;", 3, 2, 1, 0, 3);
        CHECK.due("a b c d", x.ledger(0, 0, 4), 0b11110001);
        CHECK.due("b c d a", x.ledger(0, 1, 4), 0b10);
        putRow(x, 2, 3, 1, 0);
        CHECK.due("b a c d", x.ledger(0, 0, 4), 0);
    }

    static void promise22_onTheNextDay() {
        AlphaCourt x = withRow("w1,1;o;pa1,99;pb1,99;", 1, 0);
        CHECK.due("b on day 1", x.ledger(0, 0, 1), 1);
        CHECK.due("a on day 1", x.ledger(0, 1, 1), 254);
        AlphaCourt dying = withRow(HEAD + "pa1,1;pb1,99;", 1);
        CHECK.due("a is dead then", dying.ledger(0, 0, 1), 255);
    }

    static void promise22_anotherRoundOfTheDaysIsTheSame() {
        AlphaCourt x = withLost("w1,1;o;pa1,99;pb1,99;", 0, 1);
        x.days(8);
        x.lose(0, 0);
        x.lose(1, 0);
        putRow(x, 1, 0);
        CHECK.due("b on day 9", x.ledger(0, 0, 1), 1);
        CHECK.due("a on day 9", x.ledger(0, 1, 1), 254);
    }

    static void promise22_nothingChanges() {
        AlphaCourt x = withRow(MIXED, 0, 1, 9);
        x.days(1);
        x.ledger(0, 0, 1);
        String before = Check.image(x);
        x.ledger(0, 0, 0);
        x.ledger(0, 1, 2);
        x.ledger(8, 0, 0);
        x.ledger(0, 0, 7);
        CHECK.dueSame("foretold, or refused", x, before);
        CHECK.due("an item", x.ledger(0, 0, 3), Check.BAD);
        CHECK.due("still there", x.drop(0), 3);
    }
}
