/** The boundary cases of promises 9 to 12: days, forge, lose, undo. */
public final class ActsBoundaryTest {
    private static final Check CHECK = new Check();
    private static final int LEAST = Integer.MIN_VALUE, MOST = Integer.MAX_VALUE;
    private static final String HEAD = "w1,0;o;";
    /** One of each SORT; on DAY 1 the nameless one is seated. */
    private static final String MIXED = "w1,2;oc;rab2,9;pb2,4;qcd1,30;ta1,3;sh1,20;";

    public static void main(String[] args) throws ReflectiveOperationException {
        Boundaries.runAll(ActsBoundaryTest.class, CHECK, 9, 10, 11, 12);
    }

    private static void goTo(AlphaCourt x, int day) {
        for (int k = 0; k < 50 && x.count(4) < day; k++) {
            x.days(Math.min(20, day - x.count(4)));
        }
        CHECK.due("the day", x.count(4), day);
    }

    private static void dueStates(String what, AlphaCourt x, int... want) {
        CHECK.dueAll(what, Check.ofAll(x, 3), want);
    }

    // ---- days

    static void promise09_noCourtIsStateAheadOfBad() {
        AlphaCourt x = new AlphaCourt();
        for (int n : new int[] {1, 20, 0, -1, 21, LEAST, MOST}) {
            CHECK.due("days " + n, x.days(n), Check.STATE);
        }
    }

    static void promise09_fewerThan1AndMoreThan20AreBad() {
        AlphaCourt x = Check.courtOf(MIXED);
        x.days(1);
        String before = Check.image(x);
        for (int n : new int[] {0, -1, 21, 300, LEAST, MOST}) {
            CHECK.due("days " + n, x.days(n), Check.BAD);
        }
        CHECK.dueSame("refused", x, before);
    }

    static void promise09_1And20DaysGoBy() {
        AlphaCourt x = Check.courtOf(HEAD + "pa1,99;");
        CHECK.due("1", x.days(1), 0);
        CHECK.due("the day", x.count(4), 1);
        CHECK.due("20", x.days(20), 0);
        CHECK.due("the day", x.count(4), 21);
    }

    static void promise09_eachDayIsAnAct() {
        AlphaCourt x = Check.courtOf(HEAD);
        x.days(1);
        CHECK.due("one", x.count(8), 1);
        x.days(20);
        CHECK.due("20 more", x.count(8), 21);
        CHECK.due("one undone", x.undo(), 20);
        CHECK.due("the day", x.count(4), 20);
    }

    static void promise09_day999IsTheLast() {
        AlphaCourt x = Check.courtOf(HEAD + "pa1,99;");
        goTo(x, 998);
        CHECK.due("two more", x.days(2), Check.FULL);
        CHECK.due("the day", x.count(4), 998);
        CHECK.due("one more", x.days(1), 0);
        CHECK.due("the day", x.count(4), 999);
        CHECK.due("no more", x.days(1), Check.FULL);
        CHECK.due("not 20 either", x.days(20), Check.FULL);
        CHECK.due("the day", x.count(4), 999);
    }

    static void promise09_20DaysUpTo999() {
        AlphaCourt x = Check.courtOf(HEAD);
        goTo(x, 980);
        CHECK.due("20 from 980 on", x.days(20), Check.FULL);
        CHECK.due("19", x.days(19), 0);
        x.undo();
        for (int k = 0; k < 19; k++) {
            x.undo();
        }
        CHECK.due("the day", x.count(4), 979);
        CHECK.due("20 from 979 on", x.days(20), 0);
        CHECK.due("the day", x.count(4), 999);
    }

    static void promise09_badComesAheadOfFull() {
        AlphaCourt x = Check.courtOf(HEAD);
        goTo(x, 999);
        for (int n : new int[] {0, -1, 21, MOST, LEAST}) {
            CHECK.due("days " + n, x.days(n), Check.BAD);
        }
    }

    static void promise09_fullChangesNothing() {
        AlphaCourt x = Check.courtOf(MIXED);
        goTo(x, 990);
        x.lose(3, 1);
        String before = Check.image(x);
        CHECK.due("full", x.days(10), Check.FULL);
        CHECK.dueSame("refused", x, before);
    }

    static void promise09_anUndoneDayMakesRoomAgain() {
        AlphaCourt x = Check.courtOf(HEAD);
        goTo(x, 999);
        x.undo();
        CHECK.due("one", x.days(1), 0);
        CHECK.due("full", x.days(1), Check.FULL);
    }

    static void promise09_nobodyIsSeatedOnDay0() {
        AlphaCourt x = Check.courtOf("w4,0;o;pa1,1;pb1,9;");
        CHECK.due("who serve", x.count(6), 0);
        dueStates("all wait", x, 0, 0);
    }

    static void promise09_at0DaysItIsFree() {
        AlphaCourt x = Check.courtOf(HEAD + "pa1,9;pb2,9;");
        x.days(1);
        dueStates("day 1", x, 1, 0);
        x.days(1);
        dueStates("day 2", x, 2, 1);
        x.days(1);
        dueStates("day 3", x, 2, 1);
        x.days(1);
        dueStates("day 4", x, 2, 2);
    }

    static void promise09_theLongestTermEnds() {
        AlphaCourt x = Check.courtOf(HEAD + "pa30,9;pb1,99;");
        goTo(x, 30);
        dueStates("day 30", x, 1, 0);
        x.days(1);
        dueStates("day 31", x, 2, 1);
    }

    static void promise09_deadOnTheDayOfLife() {
        AlphaCourt x = Check.courtOf(HEAD + "pa30,99;pb1,5;");
        x.days(4);
        dueStates("the day before", x, 1, 0);
        CHECK.due("the day", x.days(1), 0);
        dueStates("the day itself", x, 1, 3);
        x.days(20);
        dueStates("from then on", x, 1, 3);
    }

    static void promise09_deadAheadOfAFreeSeat() {
        AlphaCourt x = Check.courtOf(HEAD + "pa4,99;pb1,5;pc1,6;");
        goTo(x, 5);
        dueStates("b is dead as a is free", x, 2, 3, 1);
        AlphaCourt first = Check.courtOf(HEAD + "pa1,1;");
        CHECK.due("life 1", first.days(1), 0);
        dueStates("never seated", first, 3);
    }

    static void promise09_seatedOnTheDayBeforeLife() {
        AlphaCourt x = Check.courtOf(HEAD + "pa1,2;pb1,3;pc1,3;");
        x.days(1);
        dueStates("day 1", x, 1, 0, 0);
        x.days(1);
        dueStates("day 2", x, 2, 1, 0);
        x.days(1);
        dueStates("day 3", x, 2, 2, 3);
    }

    static void promise09_whoServesBeyondLifeIsNotDead() {
        AlphaCourt x = Check.courtOf(HEAD + "pa30,2;");
        goTo(x, 30);
        dueStates("serves", x, 1);
        x.days(1);
        dueStates("free", x, 2);
        x.days(20);
        dueStates("stays free", x, 2);
    }

    static void promise09_noMoreThanTheSeats() {
        for (int seats = 1; seats <= 4; seats++) {
            AlphaCourt x = Check.courtOf("w" + seats + ",0;o;" + "pa9,99;".repeat(6));
            CHECK.due("who wait", x.days(1), 6 - seats);
            CHECK.due("who serve", x.count(6), seats);
            x.days(8);
            CHECK.due("as long as they serve", x.count(5), 6 - seats);
            x.days(1);
            CHECK.due("then as many again", x.count(6), Math.min(seats, 6 - seats));
        }
    }

    static void promise09_moreSeatsThanPeople() {
        AlphaCourt x = Check.courtOf("w4,0;o;pa1,99;pb1,99;");
        CHECK.due("who wait", x.days(1), 0);
        CHECK.due("who serve", x.count(6), 2);
        AlphaCourt nobody = Check.courtOf("w4,0;o;");
        CHECK.due("nobody", nobody.days(20), 0);
    }

    static void promise09_lostLettersArePassedOver() {
        AlphaCourt x = Check.courtOf(HEAD + "pabcd1,50;pda1,50;pe1,50;");
        x.lose(3, 1);
        CHECK.due("who wait", x.days(1), 2);
        dueStates("the last letter, and the first", x, 0, 0, 1);
        CHECK.due("the seat stays free", x.days(20), 2);
        x.lose(3, 0);
        x.days(1);
        dueStates("found", x, 1, 0, 2);
    }

    static void promise09_whoServesIsNotPutOutByALostLetter() {
        AlphaCourt x = Check.courtOf(HEAD + "pa5,50;");
        x.days(1);
        x.lose(0, 1);
        x.days(1);
        dueStates("serves on", x, 1);
        CHECK.due("days left", x.person(0, 4), 4);
    }

    static void promise09_allLettersLostSeatNobody() {
        AlphaCourt x = Check.courtOf("w4,0;o;pa1,5;qb1,5;rc1,5;sd1,5;th1,5;");
        for (int letter = 0; letter < 8; letter++) {
            x.lose(letter, 1);
        }
        CHECK.due("day 4", x.days(4), 5);
        CHECK.due("day 5", x.days(1), 0);
        dueStates("all dead", x, 3, 3, 3, 3, 3);
    }

    static void promise09_theOrderOfTheNewDaySeats() {
        AlphaCourt x = Check.courtOf("w1,1;o;pa1,50;pb1,50;");
        x.days(1);
        dueStates("turned on day 1", x, 0, 1);
        AlphaCourt y = Check.courtOf("w1,2;o;pa1,50;pb1,50;");
        y.days(1);
        dueStates("not yet", y, 1, 0);
        AlphaCourt z = Check.courtOf("w1,30;o;pa30,50;pb1,50;pc1,50;");
        goTo(z, 31);
        dueStates("turned on day 30", z, 2, 1, 0);
    }

    static void promise09_afterEightTurnsAllIsAsTold() {
        AlphaCourt x = Check.courtOf("w1,1;o;pa8,50;pb7,50;ph1,50;");
        x.days(1);
        dueStates("day 1: b", x, 0, 1, 0);
        x.days(7);
        dueStates("day 8: a, as told", x, 1, 2, 0);
    }

    static void promise09_daysAtOnceAreAsOneByOne() {
        for (int n = 1; n <= 20; n++) {
            AlphaCourt once = Check.courtOf(MIXED);
            AlphaCourt single = Check.courtOf(MIXED);
            int waiting = 0;
            for (int k = 0; k < n; k++) {
                waiting = single.days(1);
            }
            CHECK.due("who wait after " + n, once.days(n), waiting);
            CHECK.dueSame("after " + n, once, Check.image(single));
        }
    }

    // ---- forge

    private static final String FORGERS = HEAD + "rabcd2,50;rh2,50;pb2,50;qb2,50;sb2,50;tb2,50;";

    static void promise10_noSuchPersonIsBad() {
        AlphaCourt x = Check.courtOf(FORGERS);
        for (int person : new int[] {-1, 6, LEAST, MOST}) {
            CHECK.due("person " + person, x.forge(person, 0, 0), Check.BAD);
        }
        AlphaCourt one = Check.courtOf(HEAD + "ra1,9;");
        CHECK.due("a second one", one.forge(1, 0, 1), Check.BAD);
    }

    static void promise10_noSuchPlaceIsBad() {
        AlphaCourt x = Check.courtOf(FORGERS);
        for (int place : new int[] {-1, 4, LEAST, MOST}) {
            CHECK.due("place " + place + " of four", x.forge(0, place, 7), Check.BAD);
        }
        for (int place : new int[] {-1, 1, 3, 4}) {
            CHECK.due("place " + place + " of one", x.forge(1, place, 0), Check.BAD);
        }
    }

    static void promise10_noSuchLetterIsBad() {
        AlphaCourt x = Check.courtOf(FORGERS);
        for (int letter : new int[] {-1, 8, LEAST, MOST}) {
            CHECK.due("letter " + letter, x.forge(0, 0, letter), Check.BAD);
        }
    }

    static void promise10_noPersonWithoutACourtIsBad() {
        CHECK.due("no COURT", new AlphaCourt().forge(0, 0, 0), Check.BAD);
    }

    static void promise10_badComesAheadOfState() {
        AlphaCourt x = Check.courtOf(FORGERS);
        CHECK.due("no forger, no place", x.forge(2, 1, 7), Check.BAD);
        CHECK.due("no forger, no letter", x.forge(2, 0, 8), Check.BAD);
        x.days(1);
        CHECK.due("who serves, no letter", x.forge(5, 0, -1), Check.BAD);
    }

    static void promise10_whoIsNoForgerIsState() {
        AlphaCourt x = Check.courtOf(FORGERS);
        for (int person = 2; person < 6; person++) {
            CHECK.due("person " + person, x.forge(person, 0, 7), Check.STATE);
            CHECK.due("its letter", x.name(person, 0), 1);
        }
    }

    static void promise10_aForgerWhoServesIsFreeOrDeadIsState() {
        AlphaCourt x = Check.courtOf(HEAD + "ra2,50;rb30,50;rc1,3;");
        x.days(1);
        CHECK.due("serves", x.forge(0, 0, 7), Check.STATE);
        x.days(2);
        CHECK.due("free", x.forge(0, 0, 7), Check.STATE);
        CHECK.due("dead", x.forge(2, 0, 7), Check.STATE);
        CHECK.due("acts", x.count(8), 3);
    }

    static void promise10_thatLetterIsState() {
        AlphaCourt x = Check.courtOf(FORGERS);
        CHECK.due("a", x.forge(0, 0, 0), Check.STATE);
        CHECK.due("h", x.forge(1, 0, 7), Check.STATE);
        CHECK.due("another", x.forge(1, 0, 0), 7);
        CHECK.due("that, too, now", x.forge(1, 0, 0), Check.STATE);
        CHECK.due("one act", x.count(8), 1);
    }

    static void promise10_firstAndLastPlaceAndLetter() {
        AlphaCourt x = Check.courtOf(FORGERS);
        CHECK.due("h at place 3", x.forge(0, 3, 7), 3);
        CHECK.due("h at place 0", x.forge(0, 0, 7), 0);
        CHECK.due("a at place 3", x.forge(0, 3, 0), 7);
        CHECK.due("place 0", x.name(0, 0), 7);
        CHECK.due("place 1", x.name(0, 1), 1);
        CHECK.due("place 2", x.name(0, 2), 2);
        CHECK.due("place 3", x.name(0, 3), 0);
        CHECK.due("the next one's", x.name(1, 0), 7);
    }

    static void promise10_aLostLetterCanBeForgedInAndOut() {
        AlphaCourt x = Check.courtOf(HEAD + "ra1,50;");
        x.lose(0, 1);
        CHECK.due("away", x.forge(0, 0, 1), 0);
        CHECK.due("seated", x.days(1), 0);
        x.undo();
        CHECK.due("to a lost one", x.forge(0, 0, 0), 1);
        CHECK.due("passed over", x.days(1), 1);
    }

    static void promise10_refusedChangesNothing() {
        AlphaCourt x = Check.courtOf(MIXED);
        x.days(1);
        x.forge(0, 0, 4);
        String before = Check.image(x);
        x.forge(0, 0, 4);
        x.forge(0, 0, 8);
        x.forge(0, 2, 1);
        x.forge(1, 0, 5);
        x.forge(3, 0, 5);
        x.forge(5, 0, 5);
        CHECK.dueSame("refused", x, before);
    }

    // ---- lose

    static void promise11_noCourtIsStateAheadOfBad() {
        AlphaCourt x = new AlphaCourt();
        CHECK.due("as told", x.lose(0, 1), Check.STATE);
        CHECK.due("letter 8", x.lose(8, 1), Check.STATE);
        CHECK.due("letter -1", x.lose(-1, 0), Check.STATE);
        CHECK.due("is 2", x.lose(0, 2), Check.STATE);
        CHECK.due("the most", x.lose(MOST, LEAST), Check.STATE);
    }

    static void promise11_noSuchLetterIsBad() {
        AlphaCourt x = Check.courtOf(HEAD);
        for (int letter : new int[] {-1, 8, 32, LEAST, MOST}) {
            CHECK.due("lose " + letter, x.lose(letter, 1), Check.BAD);
            CHECK.due("find " + letter, x.lose(letter, 0), Check.BAD);
        }
        CHECK.due("none is lost", x.count(7), 0);
    }

    static void promise11_neitherLostNorFoundIsBad() {
        AlphaCourt x = Check.courtOf(HEAD);
        for (int is : new int[] {-1, 2, LEAST, MOST}) {
            CHECK.due("is " + is, x.lose(0, is), Check.BAD);
        }
        CHECK.due("none is lost", x.count(7), 0);
    }

    static void promise11_itIsSoIsState() {
        AlphaCourt x = Check.courtOf(HEAD);
        for (int letter = 0; letter < 8; letter++) {
            CHECK.due("found already", x.lose(letter, 0), Check.STATE);
            CHECK.due("lost", x.lose(letter, 1), 1);
            CHECK.due("lost already", x.lose(letter, 1), Check.STATE);
        }
        CHECK.due("acts", x.count(8), 8);
    }

    static void promise11_allEightCanBeLostAndFound() {
        AlphaCourt x = Check.courtOf(HEAD);
        int bits = 0;
        for (int letter = 0; letter < 8; letter++) {
            x.lose(letter, 1);
            bits |= 1 << letter;
            CHECK.due("lost", x.count(7), bits);
        }
        for (int letter = 7; letter >= 0; letter--) {
            CHECK.due("found", x.lose(letter, 0), 1);
            bits &= ~(1 << letter);
            CHECK.due("lost yet", x.count(7), bits);
        }
        CHECK.due("acts", x.count(8), 16);
    }

    static void promise11_refusedChangesNothing() {
        AlphaCourt x = Check.courtOf(MIXED);
        x.days(1);
        x.lose(2, 1);
        String before = Check.image(x);
        x.lose(2, 1);
        x.lose(3, 0);
        x.lose(8, 1);
        x.lose(0, 2);
        CHECK.dueSame("refused", x, before);
    }

    // ---- undo

    static void promise12_noneIsState() {
        AlphaCourt x = new AlphaCourt();
        CHECK.due("new", x.undo(), Check.STATE);
        Check.read(x, MIXED);
        CHECK.due("a court read", x.undo(), Check.STATE);
        x.days(1);
        CHECK.due("one", x.undo(), 0);
        CHECK.due("all undone", x.undo(), Check.STATE);
        x.days(2);
        Check.read(x, MIXED);
        CHECK.due("another court", x.undo(), Check.STATE);
        x.image(0);
        x.days(2);
        x.restore(0);
        CHECK.due("restored", x.undo(), Check.STATE);
        CHECK.due("the day", x.count(4), 0);
    }

    static void promise12_noneChangesNothing() {
        AlphaCourt x = Check.courtOf(MIXED);
        x.days(2);
        x.image(1);
        x.restore(1);
        String before = Check.image(x);
        CHECK.due("none", x.undo(), Check.STATE);
        CHECK.dueSame("refused", x, before);
    }

    static void promise12_24ActsAreKept() {
        AlphaCourt x = Check.courtOf(HEAD);
        x.days(20);
        x.days(4);
        CHECK.due("24", x.count(8), 24);
        for (int left = 23; left >= 0; left--) {
            CHECK.due("undo", x.undo(), left);
        }
        CHECK.due("day 0", x.count(4), 0);
        CHECK.due("none", x.undo(), Check.STATE);
    }

    static void promise12_of25TheOldestIsForgotten() {
        AlphaCourt x = Check.courtOf(HEAD);
        x.lose(5, 1);
        x.days(20);
        x.days(3);
        CHECK.due("24", x.count(8), 24);
        x.days(1);
        CHECK.due("not 25", x.count(8), 24);
        for (int left = 23; left >= 0; left--) {
            CHECK.due("undo", x.undo(), left);
        }
        CHECK.due("none", x.undo(), Check.STATE);
        CHECK.due("day 0", x.count(4), 0);
        CHECK.due("the oldest stays done", x.count(7), 32);
    }

    static void promise12_someOfTheDaysOfOneCallAreForgotten() {
        AlphaCourt x = Check.courtOf(HEAD);
        x.days(20);
        x.days(20);
        for (int left = 23; left >= 0; left--) {
            CHECK.due("undo", x.undo(), left);
        }
        CHECK.due("none", x.undo(), Check.STATE);
        CHECK.due("the day", x.count(4), 16);
    }

    /** Three times round: each ACT is another one, and each is undone as itself. */
    static void promise12_actsAreKeptRoundAndRound() {
        AlphaCourt x = Check.courtOf(HEAD + "rabcd1,99;");
        for (int letter = 0; letter < 8; letter++) {
            x.lose(letter, 1);
        }
        int[] letters = {0, 1, 2, 3};
        int[][] before = new int[24][];
        for (int k = 0; k < 72; k++) {
            before[k % 24] = letters.clone();
            int place = k % 4;
            letters[place] = (letters[place] + 1 + k % 3) % 8;
            x.forge(0, place, letters[place]);
        }
        CHECK.due("24", x.count(8), 24);
        for (int k = 71; k >= 48; k--) {
            CHECK.due("undo", x.undo(), k - 48);
            int[] name = {x.name(0, 0), x.name(0, 1), x.name(0, 2), x.name(0, 3)};
            CHECK.dueAll("before act " + k, name, before[k % 24]);
        }
        CHECK.due("none", x.undo(), Check.STATE);
    }

    static void promise12_undoneAndDoneAgainAtTheEdge() {
        AlphaCourt x = Check.courtOf(HEAD);
        x.days(20);
        x.days(10);
        CHECK.due("undo", x.undo(), 23);
        CHECK.due("undo", x.undo(), 22);
        x.lose(0, 1);
        x.lose(1, 1);
        CHECK.due("24", x.count(8), 24);
        x.lose(2, 1);
        CHECK.due("24 still", x.count(8), 24);
        for (int left = 23; left >= 0; left--) {
            CHECK.due("undo", x.undo(), left);
        }
        CHECK.due("the day", x.count(4), 7);
        CHECK.due("all found", x.count(7), 0);
    }

    static void promise12_forgottenActsOfACourtBeforeDoNotComeBack() {
        AlphaCourt x = Check.courtOf(HEAD + "ra1,99;");
        x.days(20);
        x.days(20);
        Check.read(x, HEAD + "ra1,99;rb1,99;");
        CHECK.due("a letter", x.forge(1, 0, 4), 1);
        x.days(1);
        CHECK.due("a day", x.undo(), 1);
        CHECK.due("the letter", x.undo(), 0);
        CHECK.due("as told", x.name(1, 0), 1);
        CHECK.due("none", x.undo(), Check.STATE);
    }

    static void promise12_aDayUndoneBringsBackAllOfIt() {
        String text = "w2,1;o;pa3,9;pb3,9;pc3,4;pd3,99;";
        for (int day = 0; day < 8; day++) {
            AlphaCourt there = Check.courtOf(text);
            AlphaCourt back = Check.courtOf(text);
            for (int k = 0; k < day; k++) {
                there.days(1);
                back.days(1);
            }
            back.days(1);
            CHECK.due("undo", back.undo(), day);
            CHECK.dueSame("back to day " + day, back, Check.image(there));
        }
    }

    static void promise12_aDayOfAllSixIsUndone() {
        AlphaCourt x = Check.courtOf("w4,0;o;" + "pa1,9;".repeat(6));
        String before = Check.image(x);
        x.days(2);
        dueStates("day 2", x, 2, 2, 2, 2, 1, 1);
        CHECK.due("undo", x.undo(), 1);
        dueStates("day 1", x, 1, 1, 1, 1, 0, 0);
        CHECK.due("undo", x.undo(), 0);
        CHECK.dueSame("day 0", x, before);
    }

    static void promise12_theDeadWaitAgain() {
        AlphaCourt x = Check.courtOf(HEAD + "pa30,99;pb1,5;");
        x.days(5);
        dueStates("dead", x, 1, 3);
        x.undo();
        dueStates("it waits", x, 1, 0);
        CHECK.due("who wait", x.count(5), 1);
    }

    static void promise12_theFreeServeAgain() {
        AlphaCourt x = Check.courtOf(HEAD + "pa3,99;");
        x.days(4);
        dueStates("free", x, 2);
        x.undo();
        dueStates("it serves", x, 1);
        CHECK.due("its last day", x.person(0, 4), 1);
    }

    static void promise12_theSeatedWaitAgain() {
        AlphaCourt x = Check.courtOf("w2,0;o;pa3,99;pb3,99;pc3,99;");
        x.days(1);
        x.undo();
        dueStates("all wait", x, 0, 0, 0);
        x.lose(0, 1);
        x.days(1);
        dueStates("others are seated", x, 0, 1, 1);
    }

    static void promise12_theLatestFirst() {
        AlphaCourt x = Check.courtOf(HEAD + "rab1,99;");
        x.lose(0, 1);
        x.forge(0, 1, 7);
        x.days(1);
        x.lose(0, 0);
        CHECK.due("found", x.undo(), 3);
        CHECK.due("lost again", x.count(7), 1);
        CHECK.due("the day", x.undo(), 2);
        CHECK.due("day 0", x.count(4), 0);
        CHECK.due("the letter", x.undo(), 1);
        CHECK.due("b again", x.name(0, 1), 1);
        CHECK.due("lost", x.undo(), 0);
        CHECK.due("none is", x.count(7), 0);
    }

    static void promise12_refusedCallsAreNoActs() {
        AlphaCourt x = Check.courtOf(HEAD + "ra1,99;");
        x.lose(3, 1);
        x.days(0);
        x.forge(0, 0, 0);
        x.lose(3, 1);
        x.image(0);
        x.waited();
        CHECK.due("one", x.count(8), 1);
        CHECK.due("undo", x.undo(), 0);
        CHECK.due("that one", x.count(7), 0);
    }
}
