/** Counts answers that are not as due; what every test of the project shares. */
final class Check {
    static final int NONE = AlphaCourt.NONE, BAD = AlphaCourt.BAD, STATE = AlphaCourt.STATE, FULL = AlphaCourt.FULL;
    static final int NULL = -1000011, PLACE = -1000012, KIND = -1000013, SIZE = -1000014, STORE = -1000015;

    private int wrong;
    private int asked;
    private String test = "";

    /** From now on what is not as due is told with this test's name. */
    void begin(String itsName) {
        test = itsName + ": ";
    }

    int asked() {
        return asked;
    }

    void due(String what, int got, int want) {
        asked++;
        if (got != want) {
            wrong++;
            System.out.println(test + what + " answered " + got + ", due is " + want);
        }
    }

    void isTrue(String what, boolean is) {
        due(what, is ? 1 : 0, 1);
    }

    /** That all that can be seen of an object is as it was. */
    void dueSame(String what, AlphaCourt x, String before) {
        String now = image(x);
        isTrue(what + ", as before: " + before + ", now: " + now, now.equals(before));
    }

    void dueAll(String what, int[] got, int... want) {
        due(what + " (how many)", got.length, want.length);
        for (int i = 0; i < Math.min(got.length, want.length); i++) {
            due(what + " [" + i + "]", got[i], want[i]);
        }
    }

    void finish() {
        System.out.println(asked + " answers, " + wrong + " not as due");
        if (wrong != 0 || asked == 0) {
            System.exit(1);
        }
    }

    static int read(AlphaCourt x, String text) {
        for (int i = 0; i < text.length(); i++) {
            x.feed(text.charAt(i));
        }
        return x.court();
    }

    static AlphaCourt courtOf(String text) {
        AlphaCourt x = new AlphaCourt();
        int answer = read(x, text);
        if (answer < 0) {
            throw new IllegalStateException("a test's own text has a fault: " + text + " " + answer);
        }
        return x;
    }

    static int[] orderOf(AlphaCourt x) {
        int[] order = new int[8];
        for (int i = 0; i < 8; i++) {
            order[i] = x.order(i);
        }
        return order;
    }

    static int[] traceOf(AlphaCourt x) {
        int size = 0;
        while (x.trace(size) != NONE) {
            size++;
        }
        int[] trace = new int[size];
        for (int i = 0; i < size; i++) {
            trace[i] = x.trace(i);
        }
        return trace;
    }

    /** What person(p, what) answers for every one. */
    static int[] ofAll(AlphaCourt x, int what) {
        int[] answers = new int[x.count(1)];
        for (int p = 0; p < answers.length; p++) {
            answers[p] = x.person(p, what);
        }
        return answers;
    }

    /** All that can be seen of a COURT, for a look whether a call changed anything. */
    static String image(AlphaCourt x) {
        StringBuilder all = new StringBuilder();
        for (int what = 0; what < 10; what++) {
            all.append(x.count(what)).append(' ');
        }
        for (int p = 0; p < x.count(1); p++) {
            for (int what = 0; what < 6; what++) {
                all.append(x.person(p, what)).append(' ');
            }
            for (int place = 0; place < x.person(p, 2); place++) {
                all.append(x.name(p, place)).append(' ');
            }
            for (int what = 0; what < 3; what++) {
                all.append(x.when(p, what)).append(' ');
            }
            all.append(x.kind(p)).append(' ');
        }
        for (int place = 0; place < 8; place++) {
            all.append(x.order(place)).append(' ');
        }
        return all.append(x.fault()).append(' ').append(x.status()).append(' ').append(x.trace(0)).toString();
    }
}
