import java.util.Random;

/** Runs of calls at random, always the same ones, each answer held against the Model's. */
public final class ModelTest {
    private static final Check CHECK = new Check();
    private static final int RUNS = 400, CALLS = 400;

    public static void main(String[] args) {
        int runs = args.length > 0 ? Integer.parseInt(args[0]) : RUNS;
        for (int run = 0; run < runs; run++) {
            new ModelTest(run).play();
        }
        CHECK.finish();
    }

    private final Random random;
    private final int run;
    private final AlphaCourt x = new AlphaCourt();
    private final Model m = new Model();

    private ModelTest(int run) {
        this.run = run;
        this.random = new Random(run);
    }

    private void play() {
        int calls = 0;
        while (calls < CALLS) {
            calls += random.nextInt(60) == 0 || calls == 0 ? text() : call();
        }
    }

    private void due(String call, int got, int want) {
        CHECK.due("run " + run + ": " + call, got, want);
    }

    private int r(int end) {
        return random.nextInt(end);
    }

    /** Mostly a number that can be, now and then one beyond. */
    private int about(int end) {
        int beyond = r(60);
        return beyond == 0 ? -1 : beyond == 1 ? end : beyond == 2 ? random.nextInt() : r(end);
    }

    private int text() {
        StringBuilder text = new StringBuilder(courtText());
        if (r(3) == 0) {
            spoil(text);
        }
        for (int i = 0; i < text.length(); i++) {
            due("feed", x.feed(text.charAt(i)), m.feed(text.charAt(i)));
        }
        due("court of " + text, x.court(), m.court());
        due("fault of " + text, x.fault(), m.fault());
        return text.length() + 2;
    }

    private String courtText() {
        int letters = 1 + r(8);
        int longLife = r(2) == 0 ? 12 : 99;
        StringBuilder text = new StringBuilder();
        text.append('w').append(1 + r(r(2) == 0 ? 2 : 4)).append(',').append(r(31) * r(2) / (1 + r(6))).append(";o");
        String told = "";
        for (int k = r(9); k > 0; k--) {
            char c = (char) ('a' + r(8));
            told += told.indexOf(c) < 0 ? "" + c : "";
        }
        text.append(told).append(';');
        for (int k = r(40) == 0 ? 7 : r(7); k > 0; k--) {
            text.append((char) ('p' + r(5)));
            for (int i = 1 + r(4); i > 0; i--) {
                text.append((char) ('a' + r(letters)));
            }
            text.append(1 + r(30) / (1 + r(8))).append(',').append(1 + r(longLife)).append(';');
        }
        return text.toString();
    }

    private void spoil(StringBuilder text) {
        String bytes = "abchiopqrstwz0123459,,;; A";
        int at = r(text.length());
        char c = r(20) == 0 ? (char) r(256) : bytes.charAt(r(bytes.length()));
        switch (r(4)) {
            case 0:
                text.setCharAt(at, c);
                break;
            case 1:
                text.insert(at, c);
                break;
            case 2:
                text.deleteCharAt(at);
                break;
            default:
                text.setLength(at);
                break;
        }
    }

    private int call() {
        int p = about(6);
        int i = about(6);
        int k = about(8);
        switch (r(32)) {
            case 0: {
                int n = r(20) == 0 ? about(60) : about(9);
                due("row " + k + " " + n, x.row(k % 3, p % 3, n), m.row(k % 3, p % 3, n));
                return 1;
            }
            case 1:
            case 2: {
                int v = r(4) == 0 ? random.nextInt() : r(6);
                due("set", x.set(k % 3, i, v), m.set(k % 3, i, v));
                return 1;
            }
            case 3: {
                int j = about(5);
                int n = about(5);
                due("copy", x.copy(k % 3, i, p % 3, j, n), m.copy(k % 3, i, p % 3, j, n));
                return 1;
            }
            case 4:
                if (r(4) == 0) {
                    due("drop " + k, x.drop(k), m.drop(k));
                }
                return 1;
            case 5:
            case 6:
            case 7: {
                int n = r(12) == 0 ? about(22) : 1 + r(3);
                due("days " + n, x.days(n), m.days(n));
                return 1;
            }
            case 8:
            case 9:
                due("forge " + p + " " + i + " " + k, x.forge(p, i % 4, k), m.forge(p, i % 4, k));
                return 1;
            case 10:
                due("lose " + k, x.lose(k, i % 2), m.lose(k, i % 2));
                return 1;
            case 11:
            case 12:
                due("undo", x.undo(), m.undo());
                return 1;
            default:
                return ask(p, i, k);
        }
    }

    private int ask(int p, int i, int k) {
        switch (r(20)) {
            case 0:
            case 1:
                due("person " + p + " " + i, x.person(p, i), m.person(p, i));
                return 1;
            case 2:
                due("name " + p + " " + i, x.name(p, i), m.name(p, i));
                return 1;
            case 3:
                due("order " + k, x.order(k), m.order(k));
                return 1;
            case 4:
            case 5:
                due("when " + p + " " + i % 4, x.when(p, i % 4), m.when(p, i % 4));
                return 1;
            case 6:
                due("waited", x.waited(), m.waited());
                return 1;
            case 7:
                due("last " + p, x.last(p, i % 4 - 1), m.last(p, i % 4 - 1));
                return 1;
            case 8:
                due("best " + i % 3, x.best(i % 3), m.best(i % 3));
                return 1;
            case 9:
                if (r(4) == 0) {
                    due("warden " + (k - 2), x.warden(k - 2), m.warden(k - 2));
                }
                return 1;
            case 10:
                due("frees", x.frees(i % 3), m.frees(i % 3));
                return 1;
            case 11:
            case 12:
                return ledger(p, i, k);
            case 13:
                due("image", x.image(i % 3), m.image(i % 3));
                return 1;
            case 14:
                due("restore", x.restore(i % 3), m.restore(i % 3));
                return 1;
            case 15:
                due("kind " + p, x.kind(p), m.kind(p));
                due("as " + p + " " + i, x.as(p, i), m.as(p, i));
                return 2;
            case 16:
                due("ask " + p + " " + i % 3, x.ask(p, i % 3), m.ask(p, i % 3));
                return 1;
            case 17:
                due("trace " + k, x.trace(k), m.trace(k));
                return 1;
            case 18:
                due("count " + (k + p), x.count(k + p), m.count(k + p));
                return 1;
            default:
                due("status", x.status(), m.status());
                return 1;
        }
    }

    /** A ROW of people taken at random is hardly ever right, so now and then it is made from who comes first. */
    private int ledger(int p, int i, int k) {
        int n = Math.floorMod(p, 4);
        if (r(2) == 0 && x.row(0, 0, 6) == m.row(0, 0, 6)) {
            for (int q = 0; q < x.count(1); q++) {
                int place = x.person(q, 5);
                due("set", x.set(0, place, q), m.set(0, place, q));
            }
            due("ledger of the first", x.ledger(0, 0, n), m.ledger(0, 0, n));
            // three calls for each of six people, and four besides: an object has 512 in all
            return 22;
        }
        due("ledger", x.ledger(k % 3, i, n), m.ledger(k % 3, i, n));
        return 1;
    }
}
