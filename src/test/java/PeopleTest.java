/** Promises 13 to 15 and 25 to 29: person, name, order, kind, as, ask, trace, count. */
public final class PeopleTest {
    private static final Check CHECK = new Check();

    public static void main(String[] args) {
        tellsOfOne();
        ranks();
        turns();
        isOfKinds();
        answers();
        counts();
        CHECK.finish();
    }

    private static void tellsOfOne() {
        AlphaCourt x = Check.courtOf("w1,0;o;phgf12,34;");
        CHECK.due("what 6", x.person(0, 6), Check.BAD);
        CHECK.due("what -1", x.person(0, -1), Check.BAD);
        CHECK.due("person 1", x.person(1, 0), Check.BAD);
        CHECK.due("person -1", x.person(-1, 0), Check.BAD);
        CHECK.due("term", x.person(0, 0), 12);
        CHECK.due("life", x.person(0, 1), 34);
        CHECK.due("letters", x.person(0, 2), 3);
        CHECK.due("name 0", x.name(0, 0), 7);
        CHECK.due("name 2", x.name(0, 2), 5);
        CHECK.due("name 3", x.name(0, 3), Check.BAD);
        CHECK.due("name -1", x.name(0, -1), Check.BAD);
        CHECK.due("name of 1", x.name(1, 0), Check.BAD);
        CHECK.due("nobody before it", x.person(0, 5), 0);
        x.days(1);
        CHECK.due("who serves has no place in the row", x.person(0, 5), Check.NONE);
        CHECK.due("days left", x.person(0, 4), 12);
        x.days(11);
        CHECK.due("the last day", x.person(0, 4), 1);
        CHECK.due("serves", x.person(0, 3), 1);
        x.days(1);
        CHECK.due("no day left", x.person(0, 4), 0);
        CHECK.due("free", x.person(0, 3), 2);
    }

    private static void ranks() {
        AlphaCourt names = Check.courtOf("w1,0;ohb;pab1,9;pa1,9;pb1,9;ph1,9;pab1,9;paa1,9;");
        CHECK.dueAll("by the order told, the short ahead, then numbers", Check.ofAll(names, 5), 3, 2, 1, 0, 4, 5);
        AlphaCourt groups = Check.courtOf("w1,0;o;sa1,9;pb1,9;th1,9;tg1,9;sab1,9;ra1,9;");
        CHECK.dueAll("nameless ahead, saints behind", Check.ofAll(groups, 5), 4, 3, 1, 0, 5, 2);
        AlphaCourt nobles = Check.courtOf("w1,0;o;qab1,9;pb1,9;qba1,9;pab1,9;qbb1,9;");
        CHECK.dueAll("a noble one is read from behind", Check.ofAll(nobles, 5), 3, 2, 0, 1, 4);
        AlphaCourt longer = Check.courtOf("w1,0;o;qcba1,9;qbca1,9;qacd1,9;pacb1,9;");
        CHECK.dueAll("all of it from behind", Check.ofAll(longer, 5), 0, 1, 3, 2);
        AlphaCourt lost = Check.courtOf("w1,0;o;pa1,9;pb1,9;");
        lost.lose(0, 1);
        CHECK.due("who would be passed over still waits", lost.person(1, 5), 1);
        lost.days(1);
        CHECK.due("who serves is before nobody", lost.person(0, 5), 0);
    }

    private static void turns() {
        AlphaCourt x = Check.courtOf("w1,3;oca;ph1,9;pc1,9;pa1,9;");
        CHECK.due("place 8", x.order(8), Check.BAD);
        CHECK.due("place -1", x.order(-1), Check.BAD);
        CHECK.dueAll("day 0", Check.orderOf(x), 2, 0, 1, 3, 4, 5, 6, 7);
        x.days(2);
        CHECK.dueAll("day 2", Check.orderOf(x), 2, 0, 1, 3, 4, 5, 6, 7);
        x.days(1);
        CHECK.dueAll("day 3", Check.orderOf(x), 0, 1, 3, 4, 5, 6, 7, 2);
        x.days(20);
        CHECK.dueAll("day 23", Check.orderOf(x), 7, 2, 0, 1, 3, 4, 5, 6);
        x.days(1);
        CHECK.dueAll("day 24: all round", Check.orderOf(x), 2, 0, 1, 3, 4, 5, 6, 7);
        AlphaCourt still = Check.courtOf("w1,0;oca;");
        still.days(20);
        CHECK.dueAll("no turns", Check.orderOf(still), 2, 0, 1, 3, 4, 5, 6, 7);
        AlphaCourt y = Check.courtOf("w1,1;o;pa9,30;pb1,30;");
        y.days(1);
        CHECK.dueAll("the order of the new day seats", Check.ofAll(y, 3), 0, 1);
    }

    private static void isOfKinds() {
        AlphaCourt x = Check.courtOf("w1,0;o;pa1,9;qa1,9;ra1,9;sa1,9;ta1,9;");
        String[] kindsOf = {"01", "012", "013", "04", "045"};
        for (int p = 0; p < 5; p++) {
            CHECK.due("kind " + p, x.kind(p), p + 1);
            for (int kind = 0; kind < 6; kind++) {
                boolean is = kindsOf[p].indexOf('0' + kind) >= 0;
                CHECK.due("as " + p + " " + kind, x.as(p, kind), is ? p : Check.KIND);
                CHECK.due("status", x.status(), is ? 0 : 3);
            }
            CHECK.due("kind 6", x.as(p, 6), Check.BAD);
            CHECK.due("kind -1", x.as(p, -1), Check.BAD);
        }
        CHECK.due("person 5", x.kind(5), Check.BAD);
        CHECK.due("person -1", x.kind(-1), Check.BAD);
        CHECK.due("as of 5", x.as(5, 0), Check.BAD);
        CHECK.due("as of -1", x.as(-1, 0), Check.BAD);
    }

    private static void asks(AlphaCourt x, int p, int what, int want, int... trace) {
        CHECK.due("ask " + p + " " + what, x.ask(p, what), want);
        CHECK.dueAll("trace of " + p + " " + what, Check.traceOf(x), trace);
    }

    private static void answers() {
        AlphaCourt x = Check.courtOf("w1,0;o;pabc7,9;qab5,9;rabcd30,9;sa4,9;tab6,9;");
        asks(x, 0, 0, 10, 11, 10, 21, 20);
        asks(x, 1, 0, -11, 12, 11, 10, 24, 21, 20);
        asks(x, 2, 0, -964, 11, 10, 22, 21, 20);
        asks(x, 3, 0, -96, 13, 10);
        asks(x, 4, 0, -188, 14, 13, 10);
        asks(x, 0, 1, 3, 21, 20);
        asks(x, 1, 1, 6, 24, 21, 20);
        asks(x, 2, 1, -994, 22, 21, 20);
        asks(x, 3, 1, 99, 23, 20, 13, 10);
        asks(x, 4, 1, 192, 23, 20, 14, 13, 10);
        CHECK.due("what 2", x.ask(0, 2), Check.BAD);
        CHECK.due("what -1", x.ask(0, -1), Check.BAD);
        CHECK.due("person 5", x.ask(5, 0), Check.BAD);
        CHECK.due("person -1", x.ask(-1, 0), Check.BAD);
        CHECK.dueAll("what is refused leaves the trace", Check.traceOf(x), 23, 20, 14, 13, 10);
        CHECK.due("trace -1", x.trace(-1), Check.NONE);
        CHECK.due("trace 5", x.trace(5), Check.NONE);
        CHECK.due("trace 16", x.trace(16), Check.NONE);
    }

    private static void counts() {
        AlphaCourt x = Check.courtOf("w3,4;o;pa2,50;pb9,50;pc9,50;pd9,50;pe9,50;");
        CHECK.due("count 10", x.count(10), Check.BAD);
        CHECK.due("count -1", x.count(-1), Check.BAD);
        x.row(3, 0, 0);
        x.feed('w');
        x.feed('w');
        x.days(5);
        x.lose(6, 1);
        int[] want = {1, 5, 3, 4, 5, 1, 3, 64, 6, 2};
        for (int what = 0; what < 10; what++) {
            CHECK.due("count " + what, x.count(what), want[what]);
        }
    }
}
