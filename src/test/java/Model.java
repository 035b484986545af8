import java.util.ArrayDeque;
import java.util.ArrayList;
import java.util.Arrays;
import java.util.Comparator;
import java.util.Deque;
import java.util.List;
import java.util.function.Predicate;

/**
 * The document once more, told as slowly as it reads: DAYS go by one by one, all rows and all NAMES are tried, undoing
 * goes back to a copy. ModelTest holds the class against it.
 */
final class Model {
    static final int NONE = -1000000, BAD = -1000001, STATE = -1000002, FULL = -1000003;

    private static final class One {
        char sort;
        String name;
        int term, life, left, seatedOn = NONE, freeOn = NONE, deadOn = NONE;
        int state;

        One copy() {
            One o = new One();
            o.sort = sort;
            o.name = name;
            o.term = term;
            o.life = life;
            o.left = left;
            o.seatedOn = seatedOn;
            o.freeOn = freeOn;
            o.deadOn = deadOn;
            o.state = state;
            return o;
        }

        boolean has(int lost) {
            return name.chars().anyMatch(c -> (lost >> (c - 'a') & 1) == 1);
        }

        String read() {
            return sort == 'q' ? new StringBuilder(name).reverse().toString() : name;
        }
    }

    private static final class State {
        int seats, turns, day, lost;
        String told = "";
        List<One> people = new ArrayList<>();
        List<Integer> seatedToday = new ArrayList<>();

        State copy() {
            State s = new State();
            s.seats = seats;
            s.turns = turns;
            s.day = day;
            s.lost = lost;
            s.told = told;
            for (One o : people) {
                s.people.add(o.copy());
            }
            return s;
        }

        String order(int besides) {
            String order = told;
            int times = besides + (turns == 0 ? 0 : day / turns);
            for (int k = 0; k < times; k++) {
                order = order.substring(1) + order.charAt(0);
            }
            return order;
        }

        Comparator<Integer> before(int besides) {
            String order = order(besides);
            return (a, b) -> {
                One x = people.get(a);
                One y = people.get(b);
                int gx = x.sort == 't' ? -1 : x.sort == 's' ? 1 : 0;
                int gy = y.sort == 't' ? -1 : y.sort == 's' ? 1 : 0;
                if (gx != gy) {
                    return gx - gy;
                }
                int names = places(x.read(), order).compareTo(places(y.read(), order));
                return names != 0 ? names : a - b;
            };
        }

        private static String places(String name, String order) {
            StringBuilder places = new StringBuilder();
            for (char c : name.toCharArray()) {
                places.append((char) ('0' + order.indexOf(c)));
            }
            return places.toString();
        }

        List<Integer> waiting(Predicate<One> which) {
            List<Integer> list = new ArrayList<>();
            for (int p = 0; p < people.size(); p++) {
                if (people.get(p).state == 0 && which.test(people.get(p))) {
                    list.add(p);
                }
            }
            return list;
        }

        int serving() {
            int many = 0;
            for (One o : people) {
                many += o.state == 1 ? 1 : 0;
            }
            return many;
        }

        /** A DAY goes by; row is a warden's, or null for THE ORDER. */
        void goDay(int besides, Deque<Integer> row) {
            day++;
            for (One o : people) {
                if (o.state == 1 && --o.left == 0) {
                    o.state = 2;
                    o.freeOn = day;
                } else if (o.state == 0 && day >= o.life) {
                    o.state = 3;
                    o.deadOn = day;
                }
            }
            seatedToday.clear();
            while (serving() < seats) {
                Integer who = row == null ? firstByOrder(besides) : firstByRow(row);
                if (who == null) {
                    return;
                }
                One o = people.get(who);
                o.state = 1;
                o.left = o.term;
                o.seatedOn = day;
                seatedToday.add(who);
            }
        }

        private Integer firstByOrder(int besides) {
            return waiting(o -> !o.has(lost)).stream().min(before(besides)).orElse(null);
        }

        private Integer firstByRow(Deque<Integer> row) {
            while (!row.isEmpty()) {
                int who = row.removeFirst();
                if (people.get(who).state == 0) {
                    return who;
                }
            }
            return null;
        }

        State later(int besides, Deque<Integer> row) {
            State s = copy();
            for (int k = 0; k < 300; k++) {
                s.goDay(besides, row);
            }
            return s;
        }

        int waited() {
            int sum = 0;
            for (One o : people) {
                sum += o.seatedOn != NONE ? o.seatedOn : o.deadOn != NONE ? o.deadOn : day;
            }
            return sum;
        }
    }

    private final int[][] rows = new int[8][];
    private final int[] lanes = new int[8];
    private String tape = "";
    private State court;
    private final Deque<State> past = new ArrayDeque<>();
    private final State[] images = new State[2];
    private int fault, status;
    private List<Integer> trace = new ArrayList<>();

    private int finding(int f) {
        status = f;
        return -1000010 - f;
    }

    private int fine(int answer) {
        status = 0;
        return answer;
    }

    int row(int row, int lane, int n) {
        if (row < 0 || row > 7 || lane < 0 || lane > 2 || n > 40) {
            return BAD;
        }
        if (n < 0) {
            return finding(4);
        }
        rows[row] = new int[n];
        lanes[row] = lane;
        return fine(n);
    }

    int set(int row, int i, int v) {
        if (row < 0 || row > 7) {
            return BAD;
        }
        if (rows[row] == null) {
            return finding(1);
        }
        if (i < 0 || i >= rows[row].length) {
            return finding(2);
        }
        int bits = 32 - (8 << lanes[row]);
        rows[row][i] = v << bits >> bits;
        return fine(rows[row][i]);
    }

    int copy(int a, int i, int b, int j, int n) {
        if (a < 0 || a > 7 || b < 0 || b > 7) {
            return BAD;
        }
        if (rows[a] == null || rows[b] == null) {
            return finding(1);
        }
        if (lanes[a] != lanes[b]) {
            return finding(5);
        }
        if (i < 0 || j < 0 || n < 0 || (long) i + n > rows[a].length || (long) j + n > rows[b].length) {
            return finding(2);
        }
        int[] ahead = rows[a].clone();
        for (int k = 0; k < n; k++) {
            rows[b][j + k] = ahead[i + k];
        }
        return fine(n);
    }

    int drop(int row) {
        if (row < 0 || row > 7) {
            return BAD;
        }
        if (rows[row] == null) {
            return finding(1);
        }
        int had = rows[row].length;
        rows[row] = null;
        return fine(had);
    }

    int feed(int letter) {
        if (letter < 0 || letter > 255) {
            return BAD;
        }
        if (tape.length() >= 120) {
            return FULL;
        }
        tape += (char) letter;
        return tape.length();
    }

    int court() {
        ModelText text = new ModelText(tape);
        tape = "";
        if (text.fault != 0) {
            fault = text.fault;
            return -1000100 - text.place;
        }
        court = new State();
        court.seats = text.seats;
        court.turns = text.turns;
        court.told = text.order;
        for (String[] told : text.people) {
            One o = new One();
            o.sort = told[0].charAt(0);
            o.name = told[1];
            o.term = Integer.parseInt(told[2]);
            o.life = Integer.parseInt(told[3]);
            court.people.add(o);
        }
        past.clear();
        return court.people.size();
    }

    int fault() {
        return fault;
    }

    private void keepPast() {
        past.addLast(court.copy());
        if (past.size() > 24) {
            past.removeFirst();
        }
    }

    int days(int n) {
        if (court == null) {
            return STATE;
        }
        if (n < 1 || n > 20) {
            return BAD;
        }
        if (court.day + n > 999) {
            return FULL;
        }
        for (int k = 0; k < n; k++) {
            keepPast();
            court.goDay(0, null);
        }
        return court.waiting(o -> true).size();
    }

    private One one(int person) {
        return court == null || person < 0 || person >= court.people.size() ? null : court.people.get(person);
    }

    int forge(int person, int place, int letter) {
        One o = one(person);
        if (o == null || place < 0 || place >= o.name.length() || letter < 0 || letter > 7) {
            return BAD;
        }
        int old = o.name.charAt(place) - 'a';
        if (o.sort != 'r' || o.state != 0 || old == letter) {
            return STATE;
        }
        keepPast();
        o.name = o.name.substring(0, place) + (char) ('a' + letter) + o.name.substring(place + 1);
        return old;
    }

    int lose(int letter, int is) {
        if (court == null) {
            return STATE;
        }
        if (letter < 0 || letter > 7 || is < 0 || is > 1) {
            return BAD;
        }
        if ((court.lost >> letter & 1) == is) {
            return STATE;
        }
        keepPast();
        court.lost = is == 1 ? court.lost | 1 << letter : court.lost & ~(1 << letter);
        return 1;
    }

    int undo() {
        if (past.isEmpty()) {
            return STATE;
        }
        court = past.removeLast();
        return past.size();
    }

    int person(int person, int what) {
        One o = one(person);
        if (o == null || what < 0 || what > 5) {
            return BAD;
        }
        if (what == 5 && o.state != 0) {
            return NONE;
        }
        int[] all = {o.term, o.life, o.name.length(), o.state, o.left, 0};
        for (int p : court.waiting(any -> true)) {
            all[5] += court.before(0).compare(p, person) < 0 ? 1 : 0;
        }
        return all[what];
    }

    int name(int person, int place) {
        One o = one(person);
        return o == null || place < 0 || place >= o.name.length() ? BAD : o.name.charAt(place) - 'a';
    }

    int order(int place) {
        if (court == null) {
            return STATE;
        }
        return place < 0 || place > 7 ? BAD : court.order(0).charAt(place) - 'a';
    }

    int when(int person, int what) {
        if (one(person) == null || what < 0 || what > 2) {
            return BAD;
        }
        One o = court.later(0, null).people.get(person);
        return what == 0 ? o.seatedOn : what == 1 ? o.freeOn : o.deadOn;
    }

    int waited() {
        return court == null ? STATE : court.later(0, null).waited();
    }

    int last(int person, int place) {
        One o = one(person);
        if (o == null || place < -1 || place >= o.name.length()) {
            return BAD;
        }
        if (o.state != 0) {
            return NONE;
        }
        String own = o.name;
        String found = null;
        int fewest = Integer.MAX_VALUE;
        for (int k = 0; k < 1 << 3 * own.length(); k++) {
            StringBuilder name = new StringBuilder();
            int changes = 0;
            for (int i = own.length() - 1; i >= 0; i--) {
                name.append((char) ('a' + (k >> 3 * i & 7)));
                changes += name.charAt(name.length() - 1) == own.charAt(name.length() - 1) ? 0 : 1;
            }
            o.name = name.toString();
            if (changes < fewest
                    && court.waiting(any -> true).stream().allMatch(p -> court.before(0).compare(p, person) <= 0)) {
                fewest = changes;
                found = o.name;
            }
        }
        o.name = own;
        return found == null ? NONE : place == -1 ? fewest : found.charAt(place) - 'a';
    }

    int best(int what) {
        if (court == null) {
            return STATE;
        }
        if (what < 0 || what > 1) {
            return BAD;
        }
        int[] waited = new int[8];
        for (int turn = 0; turn < 8; turn++) {
            waited[turn] = court.later(turn, null).waited();
        }
        int least = Arrays.stream(waited).min().getAsInt();
        for (int turn = 0; turn < 8; turn++) {
            if (waited[turn] == least) {
                return what == 0 ? turn : least;
            }
        }
        throw new IllegalStateException();
    }

    int warden(int what) {
        if (court == null) {
            return STATE;
        }
        if (what < -2 || what > 5) {
            return BAD;
        }
        List<List<Integer>> all = new ArrayList<>();
        addRows(court.waiting(any -> true), new ArrayList<>(), all);
        List<Integer> bestRow = null;
        int least = Integer.MAX_VALUE;
        for (List<Integer> row : all) {
            int waited = wardenWaits(row);
            if (waited < least) {
                least = waited;
                bestRow = row;
            }
        }
        if (what >= 0) {
            return what < bestRow.size() ? bestRow.get(what) : NONE;
        }
        return what == -1 ? least : waited() - least;
    }

    private int wardenWaits(List<Integer> row) {
        State s = court.copy();
        Deque<Integer> rest = new ArrayDeque<>(row);
        for (int k = 0; k < 300 && !s.waiting(any -> true).isEmpty(); k++) {
            s.goDay(0, rest);
        }
        return s.waited();
    }

    private static void addRows(List<Integer> rest, List<Integer> row, List<List<Integer>> all) {
        if (rest.isEmpty()) {
            all.add(new ArrayList<>(row));
        }
        for (int i = 0; i < rest.size(); i++) {
            List<Integer> fewer = new ArrayList<>(rest);
            row.add(fewer.remove(i));
            addRows(fewer, row, all);
            row.remove(row.size() - 1);
        }
    }

    int frees(int what) {
        if (court == null) {
            return STATE;
        }
        if (what < 0 || what > 1) {
            return BAD;
        }
        int most = -1;
        int first = -1;
        for (int letter = 0; letter < 8; letter++) {
            int bit = 1 << letter;
            int many = court.waiting(o -> o.has(bit)).size();
            if (many > most) {
                most = many;
                first = letter;
            }
        }
        return what == 0 ? first : most;
    }

    int ledger(int row, int i, int n) {
        if (court == null) {
            return STATE;
        }
        if (row < 0 || row > 7 || n < 0 || n > 6) {
            return BAD;
        }
        if (rows[row] == null) {
            return finding(1);
        }
        if (i < 0 || (long) i + n > rows[row].length) {
            return finding(2);
        }
        List<Integer> items = new ArrayList<>();
        for (int k = 0; k < n; k++) {
            if (one(rows[row][i + k]) == null) {
                return BAD;
            }
            items.add(rows[row][i + k]);
        }
        int bits = 0;
        for (int turn = 0; turn < 8; turn++) {
            State s = court.copy();
            s.goDay(turn, null);
            bits |= s.seatedToday.equals(items) ? 1 << turn : 0;
        }
        return fine(bits);
    }

    int image(int k) {
        if (k < 0 || k > 1) {
            return BAD;
        }
        if (court == null) {
            return STATE;
        }
        images[k] = court.copy();
        return 1;
    }

    int restore(int k) {
        if (k < 0 || k > 1) {
            return BAD;
        }
        if (images[k] == null) {
            return STATE;
        }
        court = images[k].copy();
        past.clear();
        return 1;
    }

    int kind(int person) {
        return one(person) == null ? BAD : one(person).sort - 'p' + 1;
    }

    int as(int person, int kind) {
        if (one(person) == null || kind < 0 || kind > 5) {
            return BAD;
        }
        String kinds = new String[] {"01", "012", "013", "04", "045"}[one(person).sort - 'p'];
        return kinds.contains("" + kind) ? fine(person) : finding(3);
    }

    int ask(int person, int what) {
        if (one(person) == null || what < 0 || what > 1) {
            return BAD;
        }
        trace = new ArrayList<>();
        return what == 0 ? ModelAsk.of(one(person).sort, person, one(person).term, one(person).name, trace).size()
                : ModelAsk.of(one(person).sort, person, one(person).term, one(person).name, trace).mark();
    }

    int trace(int i) {
        return i < 0 || i >= Math.min(16, trace.size()) ? NONE : trace.get(i);
    }

    int count(int what) {
        if (what < 0 || what > 9) {
            return BAD;
        }
        State s = court == null ? new State() : court;
        int there = 0;
        for (int[] row : rows) {
            there += row == null ? 0 : 1;
        }
        return new int[] {there, s.people.size(), s.seats, s.turns, s.day, s.waiting(o -> true).size(), s.serving(),
            s.lost, past.size(), tape.length()}[what];
    }

    int status() {
        return status;
    }
}
