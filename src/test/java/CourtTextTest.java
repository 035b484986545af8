/** Promises 1 and 6 to 8: a new object, feed, court, fault. */
public final class CourtTextTest {
    private static final Check CHECK = new Check();

    public static void main(String[] args) {
        isNew();
        feeds();
        reads();
        findsFaults();
        findsTooManyFigures();
        replaces();
        CHECK.finish();
    }

    private static void isNew() {
        AlphaCourt x = new AlphaCourt();
        for (int what = 0; what < 10; what++) {
            CHECK.due("a new object's count " + what, x.count(what), 0);
        }
        CHECK.due("its fault", x.fault(), 0);
        CHECK.due("its status", x.status(), 0);
        CHECK.due("its trace", x.trace(0), Check.NONE);
        CHECK.due("days, no COURT, ahead of BAD", x.days(0), Check.STATE);
        CHECK.due("lose, no COURT, ahead of BAD", x.lose(8, 2), Check.STATE);
        CHECK.due("order, no COURT, ahead of BAD", x.order(8), Check.STATE);
        CHECK.due("waited, no COURT", x.waited(), Check.STATE);
        CHECK.due("best, no COURT, ahead of BAD", x.best(2), Check.STATE);
        CHECK.due("warden, no COURT, ahead of BAD", x.warden(6), Check.STATE);
        CHECK.due("frees, no COURT, ahead of BAD", x.frees(2), Check.STATE);
        CHECK.due("ledger, no COURT, ahead of BAD", x.ledger(8, 0, 7), Check.STATE);
        CHECK.due("forge, nobody there", x.forge(0, 0, 0), Check.BAD);
        CHECK.due("person, nobody there", x.person(0, 0), Check.BAD);
        CHECK.due("last, nobody there", x.last(0, -1), Check.BAD);
        CHECK.due("undo, nothing done", x.undo(), Check.STATE);
    }

    private static void feeds() {
        AlphaCourt x = new AlphaCourt();
        CHECK.due("byte -1", x.feed(-1), Check.BAD);
        CHECK.due("byte 256", x.feed(256), Check.BAD);
        for (int i = 1; i <= 120; i++) {
            CHECK.due("byte " + i, x.feed(i % 2 == 0 ? 0 : 255), i);
        }
        CHECK.due("a byte too many", x.feed('w'), Check.FULL);
        CHECK.due("BAD ahead of FULL", x.feed(256), Check.BAD);
        CHECK.due("bytes on the tape", x.count(9), 120);
        CHECK.due("no token at all", x.court(), -1000100);
        CHECK.due("the tape is empty then", x.count(9), 0);
        CHECK.due("and takes bytes again", x.feed('w'), 1);
    }

    private static void reads() {
        AlphaCourt x = new AlphaCourt();
        CHECK.due("no people", Check.read(x, "w4,30;o;"), 0);
        CHECK.due("seats", x.count(2), 4);
        CHECK.due("turns", x.count(3), 30);
        CHECK.dueAll("the alphabet", Check.orderOf(x), 0, 1, 2, 3, 4, 5, 6, 7);
        CHECK.due("all eight told", Check.read(x, "w01,00;ohgfedcba;"), 0);
        CHECK.due("a seat, by two figures", x.count(2), 1);
        CHECK.dueAll("the order told", Check.orderOf(x), 7, 6, 5, 4, 3, 2, 1, 0);
        CHECK.due("some told", Check.read(x, "w2,0;ofb;pabcd30,99;qh01,1;ra1,02;sg9,9;te10,10;pa1,1;"), 6);
        CHECK.dueAll("the rest as in the alphabet", Check.orderOf(x), 5, 1, 0, 2, 3, 4, 6, 7);
        CHECK.dueAll("terms", Check.ofAll(x, 0), 30, 1, 1, 9, 10, 1);
        CHECK.dueAll("lives", Check.ofAll(x, 1), 99, 1, 2, 9, 10, 1);
        CHECK.dueAll("lengths", Check.ofAll(x, 2), 4, 1, 1, 1, 1, 1);
        CHECK.dueAll("all WAIT", Check.ofAll(x, 3), 0, 0, 0, 0, 0, 0);
        for (int p = 0; p < 6; p++) {
            CHECK.due("kind " + p, x.kind(p), p < 5 ? p + 1 : 1);
        }
        CHECK.due("no fault yet", x.fault(), 0);
    }

    private static void faulty(String text, int place, int number) {
        AlphaCourt x = new AlphaCourt();
        CHECK.due("court of " + text, Check.read(x, text), -1000100 - place);
        CHECK.due("fault of " + text, x.fault(), number);
        CHECK.due("people of " + text, x.count(1), 0);
        CHECK.due("seats of " + text, x.count(2), 0);
        CHECK.due("tape after " + text, x.count(9), 0);
        CHECK.due("no COURT after " + text, x.waited(), Check.STATE);
    }

    private static void findsFaults() {
        String head = "w1,0;o;";
        faulty("", 0, 1);
        faulty(" w1,0;o;", 0, 1);
        faulty("W1,0;o;", 0, 1);
        faulty("w", 1, 1);
        faulty("w,", 1, 1);
        faulty("w0,0;o;", 1, 2);
        faulty("w5,0;o;", 1, 2);
        faulty("w1 ,0;o;", 2, 1);
        faulty("w1;", 2, 1);
        faulty("w1,;", 3, 1);
        faulty("w1,31;o;", 3, 2);
        faulty("w1,0,o;", 4, 1);
        faulty("w1,0;p;", 5, 1);
        faulty("w1,0;oa1;", 7, 1);
        faulty("w1,0;oi;", 6, 1);
        faulty("w1,0;oaba;", 8, 2);
        faulty("w1,0;oabcdefghi;", 14, 1);
        faulty("w1,0;oabcdefghc;", 14, 2);
        faulty("w1,0;o;o", 7, 1);
        faulty("w1,0;o;u", 7, 1);
        faulty(head + "p", 8, 1);
        faulty(head + "p1,1;", 8, 1);
        faulty(head + "pi1,1;", 8, 1);
        faulty(head + "pa", 9, 1);
        faulty(head + "pa,1;", 9, 1);
        faulty(head + "pabcde1,1;", 12, 1);
        faulty(head + "paaaax1,1;", 12, 1);
        faulty(head + "pa0,1;", 9, 2);
        faulty(head + "pa31,1;", 9, 2);
        faulty(head + "pa1;", 10, 1);
        faulty(head + "pa1,0;", 11, 2);
        faulty(head + "pa1,00;", 11, 2);
        faulty(head + "pa1,1", 12, 1);
        faulty(head + "pa1,1,", 12, 1);
        faulty(head + "pa1,1;;", 13, 1);
        faulty(head + "pa1,1;" + (char) 0, 13, 1);
        String six = head + "pa1,1;qa1,1;ra1,1;sa1,1;ta1,1;pb1,1;";
        faulty(six + "pa1,1;", 43, 3);
        faulty(six + "t", 43, 3);
        faulty(six + "x", 43, 1);
    }

    /** Figures side by side are one; three of them, or more, are no NUMBER nor anything else: FAULT 1, where they begin. */
    private static void findsTooManyFigures() {
        String head = "w1,0;o;";
        faulty("w131", 1, 1);
        faulty("w100,0;o;", 1, 1);
        faulty("w001,0;o;", 1, 1);
        faulty("w1,100;o;", 3, 1);
        faulty("w1,000;o;", 3, 1);
        faulty("w5,100;o;", 1, 2);
        faulty(head + "pa001,1;", 9, 1);
        faulty(head + "pabcd300,1;", 12, 1);
        faulty(head + "pa1,100;", 11, 1);
        faulty(head + "pa1,0001;", 11, 1);
        faulty(head + "pa31,100;", 9, 2);
        // where no NUMBER can stand either
        faulty("123", 0, 1);
        faulty("w1123;", 1, 1);
        faulty("w1,0123;", 3, 1);
        faulty("w1,0;123", 5, 1);
        faulty("w1,0;oa123;", 7, 1);
        faulty(head + "123", 7, 1);
        faulty(head + "p123,1;", 8, 1);
        // so many that the tape is full, or that an int could not hold them
        faulty("w" + "1".repeat(119), 1, 1);
        faulty("0".repeat(120), 0, 1);
        faulty("w4294967297,0;o;", 1, 1);
        faulty(head + "pa1,4294967297;", 11, 1);
        AlphaCourt x = new AlphaCourt();
        CHECK.due("two figures are a NUMBER", Check.read(x, "w01,00;o;pa01,99;pb30,01;"), 2);
        CHECK.due("three ones", Check.read(x, "w01,000;o;"), -1000104);
        CHECK.due("all stays", x.count(1), 2);
    }

    private static void replaces() {
        AlphaCourt x = Check.courtOf("w2,3;oh;ra1,40;pb2,40;");
        x.days(4);
        x.lose(3, 1);
        String before = Check.image(x);
        CHECK.due("a fault", Check.read(x, "w1,0;oaa;"), -1000107);
        CHECK.due("its number", x.fault(), 2);
        CHECK.due("all stays", Check.image(x).equals(before.replaceAll("0 (\\d+ -1000000)$", "2 $1")) ? 1 : 0, 1);
        CHECK.due("acts stay", x.count(8), 5);
        CHECK.due("another court", Check.read(x, "w1,0;o;pc3,50;"), 1);
        CHECK.due("day 0", x.count(4), 0);
        CHECK.due("no letter is lost", x.count(7), 0);
        CHECK.due("nothing can be undone", x.count(8), 0);
        CHECK.due("undo", x.undo(), Check.STATE);
        CHECK.due("it waits", x.person(0, 3), 0);
        CHECK.due("of the one before nobody is left", x.person(1, 0), Check.BAD);
        CHECK.due("the latest fault is told on", x.fault(), 2);
        AlphaCourt fewer = Check.courtOf("w4,0;o;pa9,50;pa9,50;pa9,50;pa9,50;pa9,50;pa9,50;");
        fewer.days(1);
        CHECK.due("a court of fewer", Check.read(fewer, "w1,0;o;pb2,50;pc3,50;"), 2);
        CHECK.due("who wait", fewer.count(5), 2);
        CHECK.due("before c", fewer.person(1, 5), 1);
        CHECK.due("the letter that frees most", fewer.frees(0), 1);
        CHECK.due("how many it frees", fewer.frees(1), 1);
        CHECK.due("b to be last", fewer.last(0, 0), 3);
        CHECK.due("waited", fewer.waited(), 1 + 3);
        CHECK.due("warden", fewer.warden(2), Check.NONE);
        CHECK.due("who wait then", fewer.days(1), 1);
        CHECK.due("who serve then", fewer.count(6), 1);
    }
}
