/** Promises 16 to 22: when, waited, last, best, warden, frees, ledger. */
public final class ForetoldTest {
    private static final Check CHECK = new Check();

    public static void main(String[] args) {
        tellsWhen();
        addsWaits();
        findsLast();
        findsBest();
        findsWarden();
        freesMost();
        readsLedgers();
        changesNothing();
        CHECK.finish();
    }

    private static void whens(AlphaCourt x, int p, int seated, int free, int dead) {
        CHECK.due("seated " + p, x.when(p, 0), seated);
        CHECK.due("free " + p, x.when(p, 1), free);
        CHECK.due("dead " + p, x.when(p, 2), dead);
    }

    private static void tellsWhen() {
        AlphaCourt x = Check.courtOf("w1,0;o;pa5,99;pb1,5;pc30,99;pd1,36;pe30,37;");
        for (int days = 0; days < 3; days++) {
            whens(x, 0, 1, 6, Check.NONE);
            whens(x, 1, Check.NONE, Check.NONE, 5);
            whens(x, 2, 6, 36, Check.NONE);
            whens(x, 3, Check.NONE, Check.NONE, 36);
            whens(x, 4, 36, 66, Check.NONE);
            x.days(20);
        }
        CHECK.due("what 3", x.when(0, 3), Check.BAD);
        CHECK.due("what -1", x.when(0, -1), Check.BAD);
        CHECK.due("person 5", x.when(5, 0), Check.BAD);
        CHECK.due("person -1", x.when(-1, 0), Check.BAD);
        AlphaCourt lost = Check.courtOf("w1,0;o;pa5,99;pb1,99;");
        lost.lose(0, 1);
        whens(lost, 0, Check.NONE, Check.NONE, 99);
        whens(lost, 1, 1, 2, Check.NONE);
    }

    private static void addsWaits() {
        AlphaCourt x = Check.courtOf("w1,0;o;pa5,99;pb1,5;pc30,99;pd1,36;pe30,37;");
        CHECK.due("waited", x.waited(), 1 + 5 + 6 + 36 + 36);
        x.days(20);
        CHECK.due("waited, some of it told", x.waited(), 84);
        x.days(20);
        CHECK.due("waited, all of it told", x.waited(), 84);
        x.undo();
        x.lose(4, 1);
        CHECK.due("on day 39 all is past", x.waited(), 84);
        CHECK.due("nobody", Check.courtOf("w1,0;o;").waited(), 0);
        AlphaCourt late = Check.courtOf("w1,0;o;pa1,99;pb1,99;");
        late.lose(0, 1);
        late.lose(1, 1);
        late.days(10);
        late.lose(1, 0);
        CHECK.due("a free seat is taken on the next day", late.when(1, 0), 11);
        CHECK.due("waited", late.waited(), 110);
    }

    private static void lasts(AlphaCourt x, int p, int many, int... name) {
        CHECK.due("last " + p, x.last(p, -1), many);
        for (int i = 0; i < name.length; i++) {
            CHECK.due("last " + p + " at " + i, x.last(p, i), name[i]);
        }
        CHECK.due("last " + p + " at the end", x.last(p, x.person(p, 2)), Check.BAD);
    }

    private static void findsLast() {
        AlphaCourt x = Check.courtOf("w1,0;o;pabc1,50;pbcd1,50;qabf1,50;");
        lasts(x, 0, 1, 5, 1, 2);
        lasts(x, 1, 1, 5, 2, 3);
        lasts(x, 2, 0, 0, 1, 5);
        CHECK.due("place -2", x.last(0, -2), Check.BAD);
        CHECK.due("person 3", x.last(3, -1), Check.BAD);
        CHECK.due("person -1", x.last(-1, -1), Check.BAD);
        AlphaCourt two = Check.courtOf("w1,0;o;phgh1,50;pabh1,50;phh1,50;");
        lasts(two, 0, 1, 7, 7, 7);
        lasts(two, 1, 2, 7, 7, 7);
        lasts(two, 2, 0, 7, 7);
        AlphaCourt none = Check.courtOf("w1,0;o;pa1,50;phh1,50;ph1,50;");
        lasts(none, 0, Check.NONE, Check.NONE);
        lasts(none, 1, 0, 7, 7);
        lasts(none, 2, Check.NONE, Check.NONE);
        AlphaCourt like = Check.courtOf("w1,0;o;pha1,50;pha1,50;");
        lasts(like, 0, 1, 7, 1);
        lasts(like, 1, 0, 7, 0);
        AlphaCourt told = Check.courtOf("w1,1;obca;pb1,50;pc1,50;");
        lasts(told, 0, 1, 0);
        told.days(1);
        CHECK.due("who serves", told.last(1, -1), Check.NONE);
        CHECK.due("who serves, at a place", told.last(1, 0), Check.NONE);
        CHECK.due("BAD ahead of NONE", told.last(1, 1), Check.BAD);
        lasts(told, 0, 0, 1);
        AlphaCourt noble = Check.courtOf("w1,0;o;qab1,50;pde1,50;");
        lasts(noble, 0, 1, 0, 4);
        AlphaCourt groups = Check.courtOf("w1,0;o;sa1,50;ph1,50;tb1,50;");
        lasts(groups, 0, 0, 0);
        lasts(groups, 1, Check.NONE, Check.NONE);
        lasts(groups, 2, Check.NONE, Check.NONE);
        AlphaCourt lost = Check.courtOf("w1,0;o;pa1,50;pb1,50;");
        lost.lose(1, 1);
        lasts(lost, 0, 1, 2);
        AlphaCourt all = Check.courtOf("w1,0;o;phhhh1,50;raaaa1,50;");
        lasts(all, 1, 4, 7, 7, 7, 7);
    }

    private static void findsBest() {
        AlphaCourt x = Check.courtOf("w1,0;o;pa9,99;pd3,99;pf1,99;");
        CHECK.due("waited", x.waited(), 1 + 10 + 13);
        CHECK.due("best: d, f, a", x.best(0), 1);
        CHECK.due("waited then", x.best(1), 1 + 4 + 5);
        CHECK.due("what 2", x.best(2), Check.BAD);
        CHECK.due("what -1", x.best(-1), Check.BAD);
        AlphaCourt like = Check.courtOf("w2,0;o;pa9,99;pd3,99;");
        CHECK.due("of several the least", like.best(0), 0);
        CHECK.due("waited", like.best(1), 2);
        AlphaCourt later = Check.courtOf("w1,1;o;pb9,99;pd3,99;pf1,99;");
        CHECK.due("without", later.waited(), 1 + 10 + 13);
        CHECK.due("besides the turns of the days: d, f, b", later.best(0), 1);
        CHECK.due("waited then", later.best(1), 1 + 4 + 5);
        CHECK.due("nobody", Check.courtOf("w1,0;o;").best(1), 0);
    }

    private static void rows(AlphaCourt x, String what, int waited, int... row) {
        CHECK.due(what + ": waited", x.warden(-1), waited);
        for (int place = 0; place < 6; place++) {
            CHECK.due(what + ": place " + place, x.warden(place), place < row.length ? row[place] : Check.NONE);
        }
    }

    private static void findsWarden() {
        AlphaCourt x = Check.courtOf("w1,0;o;pa9,99;pd3,99;pf1,99;");
        int[] want = {2, 1, 0, Check.NONE, Check.NONE, Check.NONE};
        for (int place = 0; place < 6; place++) {
            CHECK.due("warden " + place, x.warden(place), want[place]);
        }
        CHECK.due("waited", x.warden(-1), 1 + 2 + 5);
        CHECK.due("less", x.warden(-2), 24 - 8);
        CHECK.due("what 6", x.warden(6), Check.BAD);
        CHECK.due("what -3", x.warden(-3), Check.BAD);
        x.days(1);
        CHECK.due("who waits now: first", x.warden(0), 2);
        CHECK.due("who waits now: second", x.warden(1), 1);
        CHECK.due("no more", x.warden(2), Check.NONE);
        CHECK.due("waited by all", x.warden(-1), 1 + 10 + 11);
        CHECK.due("less by", x.warden(-2), 2);
        AlphaCourt like = Check.courtOf("w2,0;o;pc5,99;pb5,99;pa5,99;");
        CHECK.due("the first by numbers", like.warden(0) * 100 + like.warden(1) * 10 + like.warden(2), 12);
        AlphaCourt dying = Check.courtOf("w1,0;o;pa30,99;pb1,3;");
        CHECK.due("who is dead by then is passed over", dying.warden(-1), 3);
        CHECK.due("the row", dying.warden(0) * 10 + dying.warden(1), 10);
        AlphaCourt lost = Check.courtOf("w1,0;o;pa1,99;pb30,2;");
        lost.lose(1, 1);
        CHECK.due("waited, b passed over", lost.waited(), 1 + 2);
        CHECK.due("lost letters do not matter", lost.warden(-1), 1 + 2);
        AlphaCourt late = Check.courtOf("w1,0;o;pa30,2;pb30,2;pc1,3;");
        late.lose(0, 1);
        late.lose(1, 1);
        late.lose(2, 1);
        late.days(1);
        late.lose(2, 0);
        CHECK.due("a and b die on day 2, as c is seated", late.waited(), 2 + 2 + 2);
        CHECK.due("a seat that stayed free is taken on day 2", late.warden(-1), 2 + 2 + 2);
        AlphaCourt passed = Check.courtOf("w1,0;o;pa30,9;pb9,99;pc9,99;");
        passed.lose(0, 1);
        CHECK.due("who is not seated for a lost letter waits, too", passed.waited(), 9 + 1 + 10);
        CHECK.due("b, c, and a dead by then: the same", passed.warden(-2), 0);
        rows(Check.courtOf("w1,0;o;pb1,2;pa1,50;pc1,50;"), "dead on the very day", 1 + 2 + 2, 1, 0, 2);
        rows(Check.courtOf("w2,0;o;pa5,99;pb2,99;pc4,99;pd1,99;"), "two seats", 1 + 1 + 2 + 3, 1, 3, 0, 2);
        rows(Check.courtOf("w3,0;o;pa1,99;pb9,99;pc9,99;pd9,99;pe2,9;"), "three seats", 1 + 1 + 1 + 2 + 3, 0, 1, 4, 2, 3);
        AlphaCourt nobody = Check.courtOf("w1,0;o;");
        CHECK.due("no row", nobody.warden(0), Check.NONE);
        CHECK.due("no wait", nobody.warden(-1), 0);
        CHECK.due("no less", nobody.warden(-2), 0);
    }

    private static void freesMost() {
        AlphaCourt x = Check.courtOf("w1,0;o;paab1,99;phb1,99;ph1,99;pc1,99;");
        CHECK.due("of several the first", x.frees(0), 1);
        CHECK.due("how many", x.frees(1), 2);
        CHECK.due("what 2", x.frees(2), Check.BAD);
        CHECK.due("what -1", x.frees(-1), Check.BAD);
        x.lose(7, 1);
        x.lose(1, 1);
        CHECK.due("none other is lost", x.frees(0), 1);
        x.lose(1, 0);
        x.days(1);
        CHECK.due("who wait now", x.frees(0), 7);
        CHECK.due("how many wait now", x.frees(1), 2);
        x.lose(7, 0);
        x.days(20);
        CHECK.due("nobody waits", x.frees(0), 0);
        CHECK.due("none", x.frees(1), 0);
    }

    private static void readsLedgers() {
        AlphaCourt x = Check.courtOf("w2,0;o;pa5,99;pc5,99;pf5,99;");
        x.row(0, 0, 6);
        x.row(1, 2, 6);
        int[] items = {1, 2, 0, 1, 2, 2};
        for (int i = 0; i < 6; i++) {
            x.set(0, i, items[i]);
            x.set(1, i, items[i]);
        }
        CHECK.due("c f: turned once or twice", x.ledger(0, 0, 2), 0b110);
        CHECK.due("f a: turned 3 to 5 times", x.ledger(0, 1, 2), 0b111000);
        CHECK.due("a c: else", x.ledger(1, 2, 2), 0b11000001);
        CHECK.due("one where two are seated", x.ledger(0, 0, 1), 0);
        CHECK.due("three where two are seated", x.ledger(0, 0, 3), 0);
        CHECK.due("f twice", x.ledger(0, 4, 2), 0);
        CHECK.due("none", x.ledger(0, 6, 0), 0);
        CHECK.due("row 8", x.ledger(8, 0, 0), Check.BAD);
        CHECK.due("row -1", x.ledger(-1, 0, 0), Check.BAD);
        CHECK.due("n 7", x.ledger(0, 0, 7), Check.BAD);
        CHECK.due("n -1", x.ledger(0, 0, -1), Check.BAD);
        CHECK.due("missing", x.ledger(2, 0, 0), Check.NULL);
        CHECK.due("beyond the end", x.ledger(0, 7, 0), Check.PLACE);
        CHECK.due("over the end", x.ledger(0, 5, 2), Check.PLACE);
        CHECK.due("ahead of the row", x.ledger(0, -1, 1), Check.PLACE);
        CHECK.due("far beyond", x.ledger(0, Integer.MAX_VALUE, 6), Check.PLACE);
        x.set(0, 1, 3);
        CHECK.due("none of the people", x.ledger(0, 0, 2), Check.BAD);
        CHECK.due("PLACE ahead of that", x.ledger(0, 1, 6), Check.PLACE);
        x.set(0, 1, -1);
        CHECK.due("nor this", x.ledger(0, 0, 2), Check.BAD);
        x.days(1);
        CHECK.due("nobody is seated next", x.ledger(0, 0, 0), 255);
        CHECK.due("so not c", x.ledger(0, 0, 1), 0);
        x.days(4);
        CHECK.due("on day 6 the last one", x.ledger(1, 1, 1), 255);
    }

    private static void changesNothing() {
        AlphaCourt x = Check.courtOf("w1,2;oc;rab2,9;pb2,4;qcd1,30;ta1,3;");
        x.days(1);
        x.row(0, 0, 2);
        x.ledger(0, 0, 1);
        String before = Check.image(x);
        x.waited();
        x.last(0, -1);
        x.last(2, 1);
        x.best(0);
        x.warden(-2);
        x.frees(0);
        x.ledger(0, 0, 1);
        CHECK.due("all is as before", Check.image(x).equals(before) ? 1 : 0, 1);
    }
}
