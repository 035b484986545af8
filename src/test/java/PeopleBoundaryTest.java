/** The boundary cases of promises 13 to 15: person, name, order; and of who comes BEFORE whom. */
public final class PeopleBoundaryTest {
    private static final Check CHECK = new Check();
    private static final int LEAST = Integer.MIN_VALUE, MOST = Integer.MAX_VALUE;
    private static final String HEAD = "w1,0;o;";

    public static void main(String[] args) throws ReflectiveOperationException {
        Boundaries.runAll(PeopleBoundaryTest.class, CHECK, 13, 14, 15);
    }

    private static void duePlaces(String what, AlphaCourt x, int... want) {
        CHECK.dueAll(what, Check.ofAll(x, 5), want);
    }

    // ---- person

    static void promise13_noSuchPersonIsBad() {
        AlphaCourt x = Check.courtOf(HEAD + "pa1,9;pb1,9;");
        for (int person : new int[] {-1, 2, 5, 6, LEAST, MOST}) {
            for (int what = 0; what < 6; what++) {
                CHECK.due("person " + person, x.person(person, what), Check.BAD);
            }
        }
        CHECK.due("nobody", Check.courtOf(HEAD).person(0, 0), Check.BAD);
        CHECK.due("no COURT", new AlphaCourt().person(0, 5), Check.BAD);
    }

    static void promise13_noSuchWhatIsBad() {
        AlphaCourt x = Check.courtOf(HEAD + "pa1,9;");
        for (int what : new int[] {-1, 6, LEAST, MOST}) {
            CHECK.due("what " + what, x.person(0, what), Check.BAD);
        }
    }

    static void promise13_theLastOfSixIsTold() {
        AlphaCourt x = Check.courtOf(HEAD + "pa1,9;".repeat(5) + "phgfe30,99;");
        CHECK.due("term", x.person(5, 0), 30);
        CHECK.due("life", x.person(5, 1), 99);
        CHECK.due("letters", x.person(5, 2), 4);
        CHECK.due("waits", x.person(5, 3), 0);
        CHECK.due("serves no days", x.person(5, 4), 0);
        CHECK.due("behind five", x.person(5, 5), 5);
    }

    static void promise13_waitsServesFreeDead() {
        AlphaCourt x = Check.courtOf(HEAD + "pa1,9;pb30,9;pc1,3;pd1,99;");
        x.days(3);
        CHECK.dueAll("free, serves, dead, waits", Check.ofAll(x, 3), 2, 1, 3, 0);
        CHECK.dueAll("days it serves yet", Check.ofAll(x, 4), 0, 29, 0, 0);
        duePlaces("only who waits has a place", x, Check.NONE, Check.NONE, Check.NONE, 0);
    }

    static void promise13_daysItServesYetGoDownTo0() {
        AlphaCourt x = Check.courtOf(HEAD + "pa3,9;");
        int[] want = {0, 3, 2, 1, 0, 0};
        for (int day = 0; day < want.length; day++) {
            CHECK.due("day " + day, x.person(0, 4), want[day]);
            x.days(1);
        }
    }

    static void promise13_whoWaitsAloneHasNobodyBefore() {
        AlphaCourt x = Check.courtOf(HEAD + "pa30,99;pb1,99;");
        x.days(1);
        CHECK.due("who serves is before nobody", x.person(1, 5), 0);
    }

    static void promise13_aNamelessOneIsBeforeAllOthers() {
        duePlaces("nameless", Check.courtOf(HEAD + "pa1,9;qa1,9;ra1,9;sa1,9;th1,9;"), 1, 2, 3, 4, 0);
    }

    static void promise13_aSaintIsBehindAllOthers() {
        duePlaces("saint", Check.courtOf(HEAD + "sa1,9;ph1,9;qh1,9;rh1,9;th1,9;"), 4, 1, 2, 3, 0);
    }

    static void promise13_ofTwoSuchByNames() {
        duePlaces("nameless", Check.courtOf(HEAD + "tb1,9;ta1,9;tab1,9;"), 2, 0, 1);
        duePlaces("saints", Check.courtOf(HEAD + "sb1,9;sa1,9;sab1,9;pa1,9;"), 3, 1, 2, 0);
    }

    static void promise13_aNameThatEndsIsBeforeOneThatGoesOn() {
        duePlaces("a, ab, aba, abab", Check.courtOf(HEAD + "pabab1,9;paba1,9;pab1,9;pa1,9;"), 3, 2, 1, 0);
        duePlaces("though a is the last letter", Check.courtOf("w1,0;obcdefgh;pba1,9;pb1,9;"), 1, 0);
    }

    static void promise13_theFirstUnlikeLetterTells() {
        duePlaces("at place 3", Check.courtOf(HEAD + "pabch1,9;pabcg1,9;"), 1, 0);
        duePlaces("a longer one with a lesser letter", Check.courtOf(HEAD + "pb1,9;paaaa1,9;"), 1, 0);
        duePlaces("letters behind it do not", Check.courtOf(HEAD + "pahhh1,9;pbaaa1,9;"), 0, 1);
    }

    static void promise13_ofLikeNamesTheLesserNumber() {
        duePlaces("six like ones", Check.courtOf(HEAD + "pab1,9;".repeat(6)), 0, 1, 2, 3, 4, 5);
        duePlaces("of other kinds, too", Check.courtOf(HEAD + "raa1,9;qaa1,9;paa1,9;"), 0, 1, 2);
        duePlaces("a noble one, as it is read", Check.courtOf(HEAD + "qba1,9;pab1,9;qba1,9;"), 0, 1, 2);
    }

    static void promise13_aNobleOnesNameIsReadFromBehind() {
        duePlaces("four letters", Check.courtOf(HEAD + "qdcba1,9;qabcd1,9;pb1,9;"), 0, 2, 1);
        duePlaces("one letter", Check.courtOf(HEAD + "qb1,9;pa1,9;pc1,9;"), 1, 0, 2);
        duePlaces("it ends from behind", Check.courtOf(HEAD + "qcba1,9;qba1,9;qa1,9;pab1,9;"), 3, 1, 0, 2);
        duePlaces("only a noble one's", Check.courtOf(HEAD + "tab1,9;tba1,9;sab1,9;sba1,9;rab1,9;rba1,9;"), 0, 1, 4, 5, 2, 3);
    }

    static void promise13_theOrderOfTodayTells() {
        AlphaCourt x = Check.courtOf("w1,3;o;pa1,50;pb1,50;ph1,50;");
        for (int letter = 0; letter < 8; letter++) {
            x.lose(letter, 1);
        }
        duePlaces("day 0", x, 0, 1, 2);
        x.days(2);
        duePlaces("day 2", x, 0, 1, 2);
        x.days(1);
        duePlaces("day 3: b is first, a is last", x, 2, 0, 1);
        x.days(18);
        duePlaces("day 21: h is first", x, 1, 2, 0);
        x.days(3);
        duePlaces("day 24: all round", x, 0, 1, 2);
    }

    static void promise13_theDeadComeBeforeNobody() {
        AlphaCourt x = Check.courtOf(HEAD + "pa30,99;pb1,3;pc1,9;");
        x.days(2);
        CHECK.due("b waits", x.person(2, 5), 1);
        x.days(1);
        CHECK.due("b is dead", x.person(2, 5), 0);
    }

    // ---- name

    static void promise14_noSuchPersonIsBad() {
        AlphaCourt x = Check.courtOf(HEAD + "pa1,9;pb1,9;");
        for (int person : new int[] {-1, 2, 6, LEAST, MOST}) {
            CHECK.due("person " + person, x.name(person, 0), Check.BAD);
        }
        CHECK.due("no COURT", new AlphaCourt().name(0, 0), Check.BAD);
    }

    static void promise14_noSuchPlaceIsBad() {
        AlphaCourt x = Check.courtOf(HEAD + "pabcd1,9;pb1,9;");
        for (int place : new int[] {-1, 4, LEAST, MOST}) {
            CHECK.due("of four, place " + place, x.name(0, place), Check.BAD);
        }
        for (int place : new int[] {-1, 1, 3, 4}) {
            CHECK.due("of one, place " + place, x.name(1, place), Check.BAD);
        }
    }

    static void promise14_firstAndLastPlaceAreTold() {
        AlphaCourt x = Check.courtOf(HEAD + "pa1,9;".repeat(5) + "qhgfa1,9;");
        int[] want = {7, 6, 5, 0};
        for (int place = 0; place < 4; place++) {
            CHECK.due("as it is written, place " + place, x.name(5, place), want[place]);
        }
    }

    static void promise14_aNameIsToldInEveryState() {
        AlphaCourt x = Check.courtOf(HEAD + "pa1,9;pb30,9;pc1,3;");
        x.days(3);
        for (int person = 0; person < 3; person++) {
            CHECK.due("free, serves, dead", x.name(person, 0), person);
        }
    }

    // ---- order

    static void promise15_noCourtIsStateAheadOfBad() {
        AlphaCourt x = new AlphaCourt();
        for (int place : new int[] {0, 7, -1, 8, LEAST, MOST}) {
            CHECK.due("place " + place, x.order(place), Check.STATE);
        }
    }

    static void promise15_noSuchPlaceIsBad() {
        AlphaCourt x = Check.courtOf("w1,1;o;");
        for (int place : new int[] {-1, 8, LEAST, MOST}) {
            CHECK.due("day 0, place " + place, x.order(place), Check.BAD);
        }
        x.days(1);
        CHECK.due("day 1, place -1", x.order(-1), Check.BAD);
        CHECK.due("day 1, place 8", x.order(8), Check.BAD);
    }

    static void promise15_turned0TimesByTurns0() {
        AlphaCourt x = Check.courtOf("w1,0;ohg;");
        for (int day = 0; day < 9; day++) {
            CHECK.due("the first", x.order(0), 7);
            CHECK.due("the last", x.order(7), 5);
            x.days(1);
        }
    }

    static void promise15_theDayByTurnsIsCut() {
        AlphaCourt x = Check.courtOf("w1,30;o;");
        x.days(20);
        x.days(9);
        CHECK.due("day 29", x.order(0), 0);
        x.days(1);
        CHECK.due("day 30", x.order(0), 1);
        CHECK.due("day 30, the last", x.order(7), 0);
        x.days(20);
        x.days(9);
        CHECK.due("day 59", x.order(0), 1);
        x.days(1);
        CHECK.due("day 60", x.order(0), 2);
    }

    static void promise15_theFirstGoesBehindTheLastRoundAndRound() {
        AlphaCourt x = Check.courtOf("w1,1;ohca;");
        int[] told = {7, 2, 0, 1, 3, 4, 5, 6};
        for (int day = 0; day < 17; day++) {
            for (int place = 0; place < 8; place++) {
                CHECK.due("day " + day + ", place " + place, x.order(place), told[(place + day) % 8]);
            }
            x.days(1);
        }
    }

    static void promise15_onDay999() {
        AlphaCourt x = Check.courtOf("w1,1;o;");
        for (int k = 0; k < 49; k++) {
            x.days(20);
        }
        x.days(19);
        CHECK.due("the day", x.count(4), 999);
        CHECK.dueAll("turned 999 times: 7", Check.orderOf(x), 7, 0, 1, 2, 3, 4, 5, 6);
    }
}
