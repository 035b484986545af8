/** Promises 9 to 12: days, forge, lose, undo; with 23 and 24, image and restore. */
public final class ActsTest {
    private static final Check CHECK = new Check();

    public static void main(String[] args) {
        passesDays();
        diesWaiting();
        forges();
        loses();
        undoes();
        undoesOthers();
        forgets();
        keepsImages();
        CHECK.finish();
    }

    private static void passesDays() {
        AlphaCourt x = Check.courtOf("w2,2;o;pa3,40;pb1,40;pc2,40;pd2,40;");
        CHECK.due("days 0", x.days(0), Check.BAD);
        CHECK.due("days 21", x.days(21), Check.BAD);
        CHECK.due("days -1", x.days(-1), Check.BAD);
        CHECK.due("nobody sits on day 0", x.count(6), 0);
        CHECK.due("a day", x.days(1), 2);
        CHECK.dueAll("two are seated", Check.ofAll(x, 3), 1, 1, 0, 0);
        CHECK.dueAll("for their terms", Check.ofAll(x, 4), 3, 1, 0, 0);
        CHECK.due("day 2: b is free, its seat is taken", x.days(1), 1);
        CHECK.dueAll("by c, for the order begins with b", Check.ofAll(x, 3), 1, 2, 1, 0);
        CHECK.dueAll("days left", Check.ofAll(x, 4), 2, 0, 2, 0);
        CHECK.due("two days at once", x.days(2), 0);
        CHECK.dueAll("on day 4", Check.ofAll(x, 3), 2, 2, 2, 1);
        CHECK.due("the day", x.count(4), 4);
        CHECK.due("acts", x.count(8), 4);
        CHECK.due("who serve", x.count(6), 1);
        for (int k = 0; k < 49; k++) {
            x.days(20);
        }
        CHECK.due("the day then", x.count(4), 984);
        CHECK.due("beyond 999", x.days(16), Check.FULL);
        CHECK.due("nothing changed", x.count(4), 984);
        CHECK.due("BAD ahead of FULL", x.days(21), Check.BAD);
        CHECK.due("up to 999", x.days(15), 0);
        CHECK.due("none more", x.days(1), Check.FULL);
    }

    private static void diesWaiting() {
        AlphaCourt x = Check.courtOf("w1,0;o;pa5,99;pb1,5;pc1,6;pd1,7;");
        x.days(4);
        CHECK.dueAll("day 4", Check.ofAll(x, 3), 1, 0, 0, 0);
        CHECK.due("day 5: b's life is over", x.days(1), 2);
        CHECK.dueAll("day 5", Check.ofAll(x, 3), 1, 3, 0, 0);
        CHECK.due("day 6: c is dead ahead of the seat", x.days(1), 0);
        CHECK.dueAll("day 6", Check.ofAll(x, 3), 2, 3, 3, 1);
        AlphaCourt y = Check.courtOf("w1,0;o;pa1,1;");
        CHECK.due("dead on day 1, ahead of any seat", y.days(1), 0);
        CHECK.due("so it is", y.person(0, 3), 3);
    }

    private static void forges() {
        AlphaCourt x = Check.courtOf("w1,0;o;rba2,50;pbb2,50;rc1,50;");
        CHECK.due("forge", x.forge(0, 0, 7), 1);
        CHECK.due("the letter", x.name(0, 0), 7);
        CHECK.due("the other one stays", x.name(0, 1), 0);
        CHECK.due("it is that letter", x.forge(0, 0, 7), Check.STATE);
        CHECK.due("a plain one", x.forge(1, 0, 7), Check.STATE);
        CHECK.due("letter 8", x.forge(0, 0, 8), Check.BAD);
        CHECK.due("letter -1", x.forge(0, 0, -1), Check.BAD);
        CHECK.due("place 2", x.forge(0, 2, 0), Check.BAD);
        CHECK.due("place -1", x.forge(0, -1, 0), Check.BAD);
        CHECK.due("person 3", x.forge(3, 0, 0), Check.BAD);
        CHECK.due("person -1", x.forge(-1, 0, 0), Check.BAD);
        CHECK.due("BAD ahead of STATE", x.forge(1, 2, 0), Check.BAD);
        CHECK.due("an act", x.count(8), 1);
        x.days(1);
        CHECK.dueAll("the plain one is ahead now", Check.ofAll(x, 3), 0, 1, 0);
        x.days(2);
        CHECK.dueAll("then c, then h", Check.ofAll(x, 3), 0, 2, 1);
        CHECK.due("one that serves cannot forge", x.forge(2, 0, 0), Check.STATE);
        x.days(20);
        CHECK.due("nor one that is free", x.forge(2, 0, 0), Check.STATE);
    }

    private static void loses() {
        AlphaCourt x = Check.courtOf("w1,0;o;pab1,50;pcb1,50;pd1,4;");
        CHECK.due("found at first", x.lose(1, 0), Check.STATE);
        CHECK.due("lost", x.lose(1, 1), 1);
        CHECK.due("lost already", x.lose(1, 1), Check.STATE);
        CHECK.due("letter 8", x.lose(8, 1), Check.BAD);
        CHECK.due("letter -1", x.lose(-1, 1), Check.BAD);
        CHECK.due("is 2", x.lose(0, 2), Check.BAD);
        CHECK.due("is -1", x.lose(0, -1), Check.BAD);
        CHECK.due("lost letters", x.count(7), 2);
        CHECK.due("one more", x.lose(7, 1), 1);
        CHECK.due("lost letters", x.count(7), 130);
        CHECK.due("only d is seated", x.days(1), 2);
        CHECK.dueAll("the rest is passed over", Check.ofAll(x, 3), 0, 0, 1);
        CHECK.due("though a seat is free", x.days(5), 2);
        CHECK.due("found again", x.lose(1, 0), 1);
        CHECK.due("lost letters", x.count(7), 128);
        CHECK.due("on the next day", x.days(1), 1);
        CHECK.dueAll("a is seated", Check.ofAll(x, 3), 1, 0, 2);
        AlphaCourt y = Check.courtOf("w1,0;o;ta1,3;");
        y.lose(0, 1);
        CHECK.due("who is passed over dies, too", y.days(3), 0);
        CHECK.due("so it is", y.person(0, 3), 3);
    }

    private static final String UNDONE = "w1,2;oc;rab2,9;pb2,4;qcd1,30;ta1,3;";
    private static final int[] SCRIPT = {0, 1, 2, 0, 0, 3, 0, 4, 0, 0, 0};

    private static AlphaCourt afterActs(int acts) {
        AlphaCourt x = Check.courtOf(UNDONE);
        for (int k = 0; k < acts; k++) {
            act(x, SCRIPT[k]);
            CHECK.due("acts that can be undone", x.count(8), k + 1);
        }
        return x;
    }

    /** From the end of the script back to each of its acts; an object of its own each time, for it has 512 calls. */
    private static void undoes() {
        for (int acts = 0; acts < SCRIPT.length; acts++) {
            AlphaCourt x = afterActs(SCRIPT.length);
            for (int left = SCRIPT.length - 1; left >= acts; left--) {
                CHECK.due("undo", x.undo(), left);
            }
            boolean isSame = Check.image(x).equals(Check.image(afterActs(acts)));
            CHECK.due("as before act " + acts, isSame ? 1 : 0, 1);
            if (acts == 0) {
                CHECK.due("none is left", x.undo(), Check.STATE);
            }
        }
    }

    private static void act(AlphaCourt x, int act) {
        switch (act) {
            case 0:
                x.days(1);
                break;
            case 1:
                CHECK.due("forge", x.forge(0, 1, 7), 1);
                break;
            case 2:
                CHECK.due("lose", x.lose(7, 1), 1);
                break;
            case 3:
                CHECK.due("find", x.lose(7, 0), 1);
                break;
            default:
                CHECK.due("lose another", x.lose(2, 1), 1);
                break;
        }
    }

    private static void undoesOthers() {
        AlphaCourt x = Check.courtOf("w1,0;o;pab1,50;pab1,50;rab1,50;");
        x.forge(2, 1, 6);
        x.forge(2, 0, 5);
        x.undo();
        CHECK.due("the place forged last", x.name(2, 0), 0);
        CHECK.due("the other stays forged", x.name(2, 1), 6);
        x.undo();
        CHECK.due("as told", x.name(2, 1), 1);
        CHECK.due("no other's name was touched", x.name(0, 0) + x.name(1, 0), 0);
    }

    private static void forgets() {
        AlphaCourt x = Check.courtOf("w1,0;o;pa1,30;");
        x.lose(0, 1);
        x.days(20);
        CHECK.due("each day is an act", x.count(8), 21);
        x.days(5);
        CHECK.due("24 are kept", x.count(8), 24);
        for (int left = 23; left >= 0; left--) {
            CHECK.due("undo", x.undo(), left);
        }
        CHECK.due("the oldest are forgotten", x.undo(), Check.STATE);
        CHECK.due("back to day 1", x.count(4), 1);
        CHECK.due("the letter is still lost", x.count(7), 1);
        x.lose(0, 0);
        CHECK.due("acts are kept anew", x.count(8), 1);
        CHECK.due("a refused act is none", x.lose(0, 0), Check.STATE);
        CHECK.due("still", x.count(8), 1);
        CHECK.due("undone", x.undo(), 0);
        CHECK.due("lost again", x.count(7), 1);
    }

    private static void keepsImages() {
        AlphaCourt x = new AlphaCourt();
        CHECK.due("no COURT", x.image(0), Check.STATE);
        CHECK.due("image 2", x.image(2), Check.BAD);
        CHECK.due("image -1", x.image(-1), Check.BAD);
        CHECK.due("none was kept", x.restore(1), Check.STATE);
        CHECK.due("restore 2", x.restore(2), Check.BAD);
        CHECK.due("restore -1", x.restore(-1), Check.BAD);
        Check.read(x, "w1,2;oc;rab2,9;pb2,4;qcd1,30;ta1,3;");
        x.forge(0, 0, 5);
        x.days(2);
        x.lose(3, 1);
        CHECK.due("image", x.image(0), 1);
        CHECK.due("acts stay", x.count(8), 4);
        CHECK.due("the other one was not kept", x.restore(1), Check.STATE);
        String before = Check.image(x).replaceFirst("^((\\S+ ){8})4 ", "$10 ");
        x.undo();
        x.days(7);
        x.image(1);
        Check.read(x, "w4,9;oh;pa1,1;");
        CHECK.due("restore", x.restore(0), 1);
        CHECK.due("nothing can be undone", x.count(8), 0);
        CHECK.due("undo", x.undo(), Check.STATE);
        CHECK.due("all is as it was", Check.image(x).equals(before) ? 1 : 0, 1);
        CHECK.due("the other one", x.restore(1), 1);
        CHECK.due("its day", x.count(4), 9);
        CHECK.due("its letters", x.count(7), 0);
        x.days(1);
        CHECK.due("again", x.restore(0), 1);
        CHECK.due("an image stays as it is", Check.image(x).equals(before) ? 1 : 0, 1);
    }
}
