/** A court that carries out sentences in the order of letters. The README tells how it is used. */
public final class AlphaCourt {
    public static final int NONE = -1000000, BAD = -1000001, STATE = -1000002, FULL = -1000003;

    private static final int FINDING_BASE = -1000010, FAULT_BASE = -1000100;
    private static final int FOUND_NULL = 1, FOUND_PLACE = 2, FOUND_KIND = 3, FOUND_SIZE = 4, FOUND_STORE = 5;

    private static final int ROWS = 8, LANES = 3, MOST_ITEMS = 40;
    private static final int MOST_BYTES = 120;
    private static final int LETTERS = 8, MOST_PEOPLE = 6, LONGEST_NAME = 4;
    private static final int MOST_SEATS = 4, MOST_TURNS = 30, LONGEST_TERM = 30, LONGEST_LIFE = 99;
    private static final int MOST_DAYS = 20, LAST_DAY = 999, FORESIGHT = 300;
    private static final int MOST_ACTS = 24, IMAGES = 2, MOST_TRACE = 16;
    private static final int NOBODY = -1;
    /** Beyond every DAY that is foretold, and beyond all that PEOPLE can wait together. */
    private static final int NEVER = 1000000;

    private static final int WAITS = 0, SERVES = 1, IS_FREE = 2, IS_DEAD = 3;

    private static final int KINDS = 6, NOBLE = 2, FORGER = 3;
    /** The KIND that each KIND is, too; PERSON is none besides. */
    private static final int[] WIDER_KIND = {-1, 0, 1, 1, 0, 4};
    /** By KIND: who comes BEFORE whom whatever their NAMES; the least first. */
    private static final int[] GROUP = {1, 1, 1, 1, 2, 0};

    private final Row[] rows = new Row[ROWS];
    private final Reader reader = new Reader();
    private final Court court = new Court();
    /** What is foretold, or read from the tape, is worked out on this one, so that the COURT stays as it is. */
    private final Court draft = new Court();
    private final Court[] images = new Court[IMAGES];
    private final Acts acts = new Acts();
    private final Renaming renaming = new Renaming();
    private final Planner planner = new Planner();
    private final Asks asks = new Asks();
    private int latestFault;
    private int latestFinding;

    public AlphaCourt() {
        for (int i = 0; i < ROWS; i++) {
            rows[i] = new Row();
        }
        for (int k = 0; k < IMAGES; k++) {
            images[k] = new Court();
        }
    }

    // ---- rows

    public int row(int row, int lane, int n) {
        if (!isIn(row, ROWS) || !isIn(lane, LANES) || n > MOST_ITEMS) {
            return BAD;
        }
        if (n < 0) {
            return found(FOUND_SIZE);
        }
        rows[row].begin(lane, n);
        return unfound(n);
    }

    public int set(int row, int i, int v) {
        if (!isIn(row, ROWS)) {
            return BAD;
        }
        Row r = rows[row];
        if (r.isMissing()) {
            return found(FOUND_NULL);
        }
        if (!isIn(i, r.size)) {
            return found(FOUND_PLACE);
        }
        r.items[i] = r.cut(v);
        return unfound(r.items[i]);
    }

    public int copy(int a, int i, int b, int j, int n) {
        if (!isIn(a, ROWS) || !isIn(b, ROWS)) {
            return BAD;
        }
        Row from = rows[a];
        Row to = rows[b];
        if (from.isMissing() || to.isMissing()) {
            return found(FOUND_NULL);
        }
        if (from.lane != to.lane) {
            return found(FOUND_STORE);
        }
        if (!from.hasRange(i, n) || !to.hasRange(j, n)) {
            return found(FOUND_PLACE);
        }
        System.arraycopy(from.items, i, to.items, j, n);
        return unfound(n);
    }

    public int drop(int row) {
        if (!isIn(row, ROWS)) {
            return BAD;
        }
        Row r = rows[row];
        if (r.isMissing()) {
            return found(FOUND_NULL);
        }
        int had = r.size;
        r.size = Row.MISSING;
        return unfound(had);
    }

    // ---- courts, acts

    public int feed(int letter) {
        if (!isIn(letter, 256)) {
            return BAD;
        }
        if (reader.length >= MOST_BYTES) {
            return FULL;
        }
        reader.addByte(letter);
        return reader.length;
    }

    public int court() {
        boolean isRead = reader.readInto(draft);
        reader.length = 0;
        if (!isRead) {
            latestFault = reader.faultNumber;
            return FAULT_BASE - reader.faultPlace;
        }
        court.takeFrom(draft);
        acts.forgetAll();
        return court.people;
    }

    public int fault() {
        return latestFault;
    }

    public int days(int n) {
        if (!court.stands) {
            return STATE;
        }
        if (n < 1 || n > MOST_DAYS) {
            return BAD;
        }
        if (court.day + n > LAST_DAY) {
            return FULL;
        }
        court.seatTill(court.day + n, 0);
        court.day += n;
        for (int k = 0; k < n; k++) {
            acts.keepDay();
        }
        return court.howMany(WAITS);
    }

    public int forge(int person, int place, int letter) {
        if (!isPlaceOfName(person, place) || !isIn(letter, LETTERS)) {
            return BAD;
        }
        int old = court.letterOf(person, place);
        if (court.kinds[person] != FORGER || !court.waitsOn(person, court.day) || old == letter) {
            return STATE;
        }
        court.putLetter(person, place, letter);
        acts.keepForged(person, place, old);
        return old;
    }

    public int lose(int letter, int is) {
        if (!court.stands) {
            return STATE;
        }
        if (!isIn(letter, LETTERS) || !isIn(is, 2)) {
            return BAD;
        }
        if ((court.lost >> letter & 1) == is) {
            return STATE;
        }
        court.lost ^= 1 << letter;
        acts.keepLost(letter);
        return 1;
    }

    public int undo() {
        if (acts.size == 0) {
            return STATE;
        }
        acts.takeBack(court);
        return acts.size;
    }

    public int person(int person, int what) {
        if (!isPerson(person)) {
            return BAD;
        }
        switch (what) {
            case 0:
                return court.terms[person];
            case 1:
                return court.lives[person];
            case 2:
                return court.lengths[person];
            case 3:
                return court.stateOf(person);
            case 4:
                return court.stateOf(person) == SERVES ? court.freeDay(person) - court.day : 0;
            case 5:
                return court.waitsOn(person, court.day) ? court.howManyBefore(person) : NONE;
            default:
                return BAD;
        }
    }

    public int name(int person, int place) {
        return isPlaceOfName(person, place) ? court.letterOf(person, place) : BAD;
    }

    public int order(int place) {
        if (!court.stands) {
            return STATE;
        }
        return isIn(place, LETTERS) ? court.letterInOrder(place, court.turnOn(court.day, 0)) : BAD;
    }

    // ---- foretold

    public int when(int person, int what) {
        if (!isPerson(person) || !isIn(what, 3)) {
            return BAD;
        }
        Court later = foretell(0);
        if (what == 2) {
            return later.isSeated(person) ? NONE : later.lives[person];
        }
        if (!later.isSeated(person)) {
            return NONE;
        }
        return what == 0 ? later.seated[person] : later.freeDay(person);
    }

    public int waited() {
        return court.stands ? foretell(0).waitedByAll() : STATE;
    }

    public int last(int person, int place) {
        if (!isPerson(person) || place != -1 && !isIn(place, court.lengths[person])) {
            return BAD;
        }
        if (!court.waitsOn(person, court.day)) {
            return NONE;
        }
        int fewest = renaming.findFewest(court, person);
        if (place == -1 || fewest == NONE) {
            return fewest;
        }
        return renaming.trial.letterOf(person, place);
    }

    public int best(int what) {
        if (!court.stands) {
            return STATE;
        }
        if (!isIn(what, 2)) {
            return BAD;
        }
        int bestTurn = 0;
        int least = foretell(0).waitedByAll();
        for (int turn = 1; turn < LETTERS; turn++) {
            int sum = foretell(turn).waitedByAll();
            if (sum < least) {
                least = sum;
                bestTurn = turn;
            }
        }
        return what == 0 ? bestTurn : least;
    }

    public int warden(int what) {
        if (!court.stands) {
            return STATE;
        }
        if (what < -2 || what >= MOST_PEOPLE) {
            return BAD;
        }
        planner.plan(court);
        if (what >= 0) {
            return what < planner.size ? planner.bestRow[what] : NONE;
        }
        return what == -1 ? planner.least : foretell(0).waitedByAll() - planner.least;
    }

    public int frees(int what) {
        if (!court.stands) {
            return STATE;
        }
        if (!isIn(what, 2)) {
            return BAD;
        }
        int letter = 0;
        int most = court.howManyWaitWith(0);
        for (int other = 1; other < LETTERS; other++) {
            int many = court.howManyWaitWith(other);
            if (many > most) {
                most = many;
                letter = other;
            }
        }
        return what == 0 ? letter : most;
    }

    public int ledger(int row, int i, int n) {
        if (!court.stands) {
            return STATE;
        }
        if (!isIn(row, ROWS) || !isIn(n, MOST_PEOPLE + 1)) {
            return BAD;
        }
        Row r = rows[row];
        if (r.isMissing()) {
            return found(FOUND_NULL);
        }
        if (!r.hasRange(i, n)) {
            return found(FOUND_PLACE);
        }
        if (!areAllPeople(r, i, n)) {
            return BAD;
        }
        int turns = 0;
        for (int turn = 0; turn < LETTERS; turn++) {
            if (areSeatedNext(r, i, n, turn)) {
                turns |= 1 << turn;
            }
        }
        return unfound(turns);
    }

    public int image(int k) {
        if (!isIn(k, IMAGES)) {
            return BAD;
        }
        if (!court.stands) {
            return STATE;
        }
        images[k].takeFrom(court);
        return 1;
    }

    public int restore(int k) {
        if (!isIn(k, IMAGES)) {
            return BAD;
        }
        if (!images[k].stands) {
            return STATE;
        }
        court.takeFrom(images[k]);
        acts.forgetAll();
        return 1;
    }

    // ---- asked

    public int kind(int person) {
        return isPerson(person) ? court.kinds[person] : BAD;
    }

    public int as(int person, int kind) {
        if (!isPerson(person) || !isIn(kind, KINDS)) {
            return BAD;
        }
        return isOfKind(court.kinds[person], kind) ? unfound(person) : found(FOUND_KIND);
    }

    public int ask(int person, int what) {
        if (!isPerson(person) || !isIn(what, 2)) {
            return BAD;
        }
        return asks.answer(court, person, what);
    }

    public int trace(int i) {
        return isIn(i, asks.traced) ? asks.trail[i] : NONE;
    }

    public int count(int what) {
        switch (what) {
            case 0:
                return howManyRows();
            case 1:
                return court.people;
            case 2:
                return court.seats;
            case 3:
                return court.turns;
            case 4:
                return court.day;
            case 5:
                return court.howMany(WAITS);
            case 6:
                return court.howMany(SERVES);
            case 7:
                return court.lost;
            case 8:
                return acts.size;
            case 9:
                return reader.length;
            default:
                return BAD;
        }
    }

    public int status() {
        return latestFinding;
    }

    // ---- what the calls share

    private static boolean isIn(int number, int end) {
        return number >= 0 && number < end;
    }

    private static boolean isOfKind(int kind, int asked) {
        int k = kind;
        for (int step = 0; step < KINDS && isIn(k, KINDS); step++) {
            if (k == asked) {
                return true;
            }
            k = WIDER_KIND[k];
        }
        return false;
    }

    private int found(int finding) {
        latestFinding = finding;
        return FINDING_BASE - finding;
    }

    private int unfound(int answer) {
        latestFinding = 0;
        return answer;
    }

    private boolean isPerson(int person) {
        return isIn(person, court.people);
    }

    private boolean isPlaceOfName(int person, int place) {
        return isPerson(person) && isIn(place, court.lengths[person]);
    }

    private int howManyRows() {
        int many = 0;
        for (int i = 0; i < ROWS; i++) {
            if (!rows[i].isMissing()) {
                many++;
            }
        }
        return many;
    }

    /** The COURT with all seats taken that will be, if THE ORDER is turned so often besides; good till the next one. */
    private Court foretell(int besides) {
        draft.takeFrom(court);
        draft.seatTill(court.day + FORESIGHT, besides);
        return draft;
    }

    private boolean areAllPeople(Row r, int i, int n) {
        for (int k = 0; k < n; k++) {
            if (!isPerson(r.items[i + k])) {
                return false;
            }
        }
        return true;
    }

    private boolean areSeatedNext(Row r, int i, int n, int besides) {
        draft.takeFrom(court);
        draft.seatTill(court.day + 1, besides);
        if (draft.newlySeated != n) {
            return false;
        }
        for (int k = 0; k < n; k++) {
            if (draft.newcomers[k] != r.items[i + k]) {
                return false;
            }
        }
        return true;
    }

    /** A ROW keeps room for all ITEMS it can ever have, so that none is made anew. */
    private static final class Row {
        static final int MISSING = -1;

        final int[] items = new int[MOST_ITEMS];
        int lane;
        int size = MISSING;

        boolean isMissing() {
            return size == MISSING;
        }

        void begin(int itsLane, int itsSize) {
            lane = itsLane;
            size = itsSize;
            for (int i = 0; i < MOST_ITEMS; i++) {
                items[i] = 0;
            }
        }

        int cut(int v) {
            switch (lane) {
                case 0:
                    return (byte) v;
                case 1:
                    return (short) v;
                default:
                    return v;
            }
        }

        boolean hasRange(int from, int n) {
            // n is taken from the size, not added to from: the sum could wrap around
            return n >= 0 && from >= 0 && from <= size - n;
        }
    }

    /**
     * Of each one only the DAY on which it was SEATED is kept: who is not SEATED by LIFE is DEAD from then on, who
     * is SEATED is FREE after TERM. So a DAY is undone by forgetting who was SEATED on it.
     */
    private static final class Court {
        boolean stands;
        int people;
        int seats;
        int turns;
        int day;
        int lost;
        /** THE ORDER as told, and for each LETTER its place there. */
        final int[] told = new int[LETTERS];
        final int[] placeInTold = new int[LETTERS];
        final int[] kinds = new int[MOST_PEOPLE];
        final int[] lengths = new int[MOST_PEOPLE];
        final int[] letters = new int[MOST_PEOPLE * LONGEST_NAME];
        final int[] terms = new int[MOST_PEOPLE];
        final int[] lives = new int[MOST_PEOPLE];
        final int[] seated = new int[MOST_PEOPLE];
        /** Who took a seat in the latest seatTill, one behind another. */
        final int[] newcomers = new int[MOST_PEOPLE];
        int newlySeated;

        void takeFrom(Court other) {
            stands = other.stands;
            people = other.people;
            seats = other.seats;
            turns = other.turns;
            day = other.day;
            lost = other.lost;
            System.arraycopy(other.told, 0, told, 0, LETTERS);
            System.arraycopy(other.placeInTold, 0, placeInTold, 0, LETTERS);
            System.arraycopy(other.kinds, 0, kinds, 0, MOST_PEOPLE);
            System.arraycopy(other.lengths, 0, lengths, 0, MOST_PEOPLE);
            System.arraycopy(other.letters, 0, letters, 0, MOST_PEOPLE * LONGEST_NAME);
            System.arraycopy(other.terms, 0, terms, 0, MOST_PEOPLE);
            System.arraycopy(other.lives, 0, lives, 0, MOST_PEOPLE);
            System.arraycopy(other.seated, 0, seated, 0, MOST_PEOPLE);
        }

        void begin() {
            stands = true;
            people = 0;
            day = 0;
            lost = 0;
            for (int p = 0; p < MOST_PEOPLE; p++) {
                seated[p] = NONE;
            }
        }

        void tellOrder(int place, int letter) {
            told[place] = letter;
            placeInTold[letter] = place;
        }

        int letterOf(int p, int place) {
            return letters[p * LONGEST_NAME + place];
        }

        void putLetter(int p, int place, int letter) {
            letters[p * LONGEST_NAME + place] = letter;
        }

        int lettersAsBits(int p) {
            int bits = 0;
            for (int i = 0; i < lengths[p]; i++) {
                bits |= 1 << letterOf(p, i);
            }
            return bits;
        }

        int turnOn(int someDay, int besides) {
            return turns == 0 ? besides : besides + someDay / turns;
        }

        int letterInOrder(int place, int turn) {
            return told[(place + turn) % LETTERS];
        }

        private int placeInOrder(int letter, int turn) {
            // LETTERS is a power of 2, so the mask brings what is below 0 round, too
            return placeInTold[letter] - turn & LETTERS - 1;
        }

        private int letterAsRead(int p, int i) {
            return letters[p * LONGEST_NAME + (kinds[p] == NOBLE ? lengths[p] - 1 - i : i)];
        }

        private int compareNames(int a, int b, int turn) {
            int both = Math.min(lengths[a], lengths[b]);
            for (int i = 0; i < both; i++) {
                int x = letterAsRead(a, i);
                int y = letterAsRead(b, i);
                if (x != y) {
                    return placeInOrder(x, turn) - placeInOrder(y, turn);
                }
            }
            return lengths[a] - lengths[b];
        }

        boolean isBefore(int a, int b, int turn) {
            int groups = GROUP[kinds[a]] - GROUP[kinds[b]];
            if (groups != 0) {
                return groups < 0;
            }
            int names = compareNames(a, b, turn);
            return names == 0 ? a < b : names < 0;
        }

        boolean isSeated(int p) {
            return seated[p] != NONE;
        }

        int freeDay(int p) {
            return seated[p] + terms[p];
        }

        boolean waitsOn(int p, int someDay) {
            return !isSeated(p) && someDay < lives[p];
        }

        private boolean servesOn(int p, int someDay) {
            return isSeated(p) && someDay < freeDay(p);
        }

        int stateOf(int p) {
            if (isSeated(p)) {
                return servesOn(p, day) ? SERVES : IS_FREE;
            }
            return waitsOn(p, day) ? WAITS : IS_DEAD;
        }

        int howMany(int state) {
            int many = 0;
            for (int p = 0; p < people; p++) {
                if (stateOf(p) == state) {
                    many++;
                }
            }
            return many;
        }

        int howManyBefore(int person) {
            int turn = turnOn(day, 0);
            int many = 0;
            for (int p = 0; p < people; p++) {
                if (waitsOn(p, day) && isBefore(p, person, turn)) {
                    many++;
                }
            }
            return many;
        }

        int howManyWaitWith(int letter) {
            int many = 0;
            for (int p = 0; p < people; p++) {
                if (waitsOn(p, day) && (lettersAsBits(p) >> letter & 1) == 1) {
                    many++;
                }
            }
            return many;
        }

        int lastWaitingBut(int person, int turn) {
            int latest = NOBODY;
            for (int p = 0; p < people; p++) {
                if (p != person && waitsOn(p, day) && (latest == NOBODY || isBefore(latest, p, turn))) {
                    latest = p;
                }
            }
            return latest;
        }

        /** Seats are taken on the DAYS behind today up to the one told; today itself stays. */
        void seatTill(int end, int besides) {
            newlySeated = 0;
            int from = day + 1;
            for (int k = 0; k < people; k++) {
                from = openDay(from);
                int who = from > end ? NOBODY : firstOn(from, besides);
                // nobody now is nobody later: LOST LETTERS stay, and more are DEAD
                if (who == NOBODY) {
                    return;
                }
                seated[who] = from;
                newcomers[k] = who;
                newlySeated = k + 1;
            }
        }

        private int openDay(int from) {
            int serving = 0;
            int soonest = NEVER;
            for (int p = 0; p < people; p++) {
                if (servesOn(p, from)) {
                    serving++;
                    soonest = Math.min(soonest, freeDay(p));
                }
            }
            return serving < seats ? from : soonest;
        }

        private int firstOn(int someDay, int besides) {
            int turn = turnOn(someDay, besides);
            int first = NOBODY;
            for (int p = 0; p < people; p++) {
                boolean canBe = waitsOn(p, someDay) && (lettersAsBits(p) & lost) == 0;
                if (canBe && (first == NOBODY || isBefore(p, first, turn))) {
                    first = p;
                }
            }
            return first;
        }

        void takeBackDay() {
            for (int p = 0; p < people; p++) {
                if (seated[p] == day) {
                    seated[p] = NONE;
                }
            }
            day--;
        }

        /** To be asked when the seats are taken for all DAYS to come; no LIFE is as long as these. */
        int waitedByAll() {
            int sum = 0;
            for (int p = 0; p < people; p++) {
                sum += isSeated(p) ? seated[p] : lives[p];
            }
            return sum;
        }
    }

    /** THE TAPE, and how a COURT is read from it, TOKEN by TOKEN. */
    private static final class Reader {
        private static final int CANNOT_STAND = 1, NOT_AS_TOLD = 2, NO_ROOM = 3;
        /** What a TOKEN is: its byte, or one of these. */
        private static final int IS_END = -1, IS_NUMBER = -2, IS_NONE = -3;
        private static final int MOST_FIGURES = 2;

        private final int[] tape = new int[MOST_BYTES];
        int length;
        int faultNumber;
        int faultPlace;
        private int at;
        private int tokenPlace;
        private int token;
        private int number;

        void addByte(int b) {
            if (length < MOST_BYTES) {
                tape[length] = b;
                length++;
            }
        }

        boolean readInto(Court c) {
            c.begin();
            at = 0;
            step();
            return readLaw(c) && readOrder(c) && readPeople(c);
        }

        private boolean readLaw(Court c) {
            if (!passOver('w') || !isNumberIn(1, MOST_SEATS)) {
                return false;
            }
            c.seats = takeNumber();
            if (!passOver(',') || !isNumberIn(0, MOST_TURNS)) {
                return false;
            }
            c.turns = takeNumber();
            return passOver(';');
        }

        private boolean readOrder(Court c) {
            if (!passOver('o')) {
                return false;
            }
            int bits = 0;
            int many = 0;
            for (; many < LETTERS && isLetter(); many++) {
                int letter = letterOfToken();
                if ((bits >> letter & 1) == 1) {
                    return hasFault(NOT_AS_TOLD);
                }
                bits |= 1 << letter;
                c.tellOrder(many, letter);
                step();
            }
            if (isLetter()) {
                // behind all eight, any LETTER is told twice
                return hasFault(NOT_AS_TOLD);
            }
            for (int letter = 0; letter < LETTERS && many < LETTERS; letter++) {
                if ((bits >> letter & 1) == 0) {
                    c.tellOrder(many, letter);
                    many++;
                }
            }
            return passOver(';');
        }

        private boolean readPeople(Court c) {
            for (int k = 0; k < MOST_BYTES && token != IS_END; k++) {
                if (token < 'p' || token > 't') {
                    return hasFault(CANNOT_STAND);
                }
                if (c.people >= MOST_PEOPLE) {
                    return hasFault(NO_ROOM);
                }
                if (!readPerson(c, c.people)) {
                    return false;
                }
                c.people++;
            }
            return true;
        }

        private boolean readPerson(Court c, int p) {
            c.kinds[p] = token - 'p' + 1;
            step();
            int many = 0;
            for (; many < LONGEST_NAME && isLetter(); many++) {
                c.putLetter(p, many, letterOfToken());
                step();
            }
            if (many == 0) {
                return hasFault(CANNOT_STAND);
            }
            c.lengths[p] = many;
            if (!isNumberIn(1, LONGEST_TERM)) {
                return false;
            }
            c.terms[p] = takeNumber();
            if (!passOver(',') || !isNumberIn(1, LONGEST_LIFE)) {
                return false;
            }
            c.lives[p] = takeNumber();
            return passOver(';');
        }

        private boolean hasFault(int fault) {
            faultNumber = fault;
            faultPlace = tokenPlace;
            return false;
        }

        private boolean passOver(int expected) {
            if (token != expected) {
                return hasFault(CANNOT_STAND);
            }
            step();
            return true;
        }

        private boolean isNumberIn(int least, int most) {
            if (token != IS_NUMBER) {
                return hasFault(CANNOT_STAND);
            }
            if (number < least || number > most) {
                return hasFault(NOT_AS_TOLD);
            }
            return true;
        }

        private int takeNumber() {
            int taken = number;
            step();
            return taken;
        }

        private boolean isLetter() {
            return token >= 'a' && token < 'a' + LETTERS;
        }

        private int letterOfToken() {
            return token - 'a';
        }

        private boolean isFigureAt(int place) {
            return place < length && tape[place] >= '0' && tape[place] <= '9';
        }

        private void step() {
            tokenPlace = at;
            if (at >= length) {
                token = IS_END;
                return;
            }
            if (!isFigureAt(at)) {
                token = tape[at];
                at++;
                return;
            }
            // figures side by side are one, however many: too many of them are no TOKEN at all
            number = 0;
            for (int k = 0; k < MOST_BYTES && isFigureAt(at); k++) {
                if (k < MOST_FIGURES) {
                    number = number * 10 + tape[at] - '0';
                }
                at++;
            }
            token = at - tokenPlace > MOST_FIGURES ? IS_NONE : IS_NUMBER;
        }
    }

    /** The ACTS that can be undone, in a ring: the oldest gives its room to the one too many. */
    private static final class Acts {
        private static final int A_DAY = 0, A_FORGED_LETTER = 1, A_LOST_LETTER = 2;

        private final int[] sorts = new int[MOST_ACTS];
        private final int[] people = new int[MOST_ACTS];
        private final int[] places = new int[MOST_ACTS];
        private final int[] letters = new int[MOST_ACTS];
        private int oldest;
        int size;

        void forgetAll() {
            size = 0;
        }

        void keepDay() {
            keep(A_DAY, 0, 0, 0);
        }

        void keepForged(int person, int place, int oldLetter) {
            keep(A_FORGED_LETTER, person, place, oldLetter);
        }

        void keepLost(int letter) {
            keep(A_LOST_LETTER, 0, 0, letter);
        }

        private void keep(int sort, int person, int place, int letter) {
            if (size < MOST_ACTS) {
                size++;
            } else {
                oldest = (oldest + 1) % MOST_ACTS;
            }
            int at = latestPlace();
            sorts[at] = sort;
            people[at] = person;
            places[at] = place;
            letters[at] = letter;
        }

        private int latestPlace() {
            return (oldest + size - 1) % MOST_ACTS;
        }

        void takeBack(Court c) {
            if (size == 0) {
                return;
            }
            int at = latestPlace();
            size--;
            switch (sorts[at]) {
                case A_DAY:
                    c.takeBackDay();
                    break;
                case A_FORGED_LETTER:
                    c.putLetter(people[at], places[at], letters[at]);
                    break;
                default:
                    c.lost ^= 1 << letters[at];
                    break;
            }
        }
    }

    /** Looks for the NAME by which one would be LAST. */
    private static final class Renaming {
        /** Here the one bears the NAME that was found. */
        final Court trial = new Court();

        int findFewest(Court c, int person) {
            trial.takeFrom(c);
            int turn = c.turnOn(c.day, 0);
            // whoever is behind the last of the others is behind them all
            int rival = c.lastWaitingBut(person, turn);
            if (rival == NOBODY) {
                return 0;
            }
            if (!canBeBehind(rival, person, turn)) {
                return NONE;
            }
            for (int changes = 0; changes <= c.lengths[person]; changes++) {
                if (tryNames(trial, c, person, rival, turn, 0, changes)) {
                    return changes;
                }
            }
            return NONE;
        }

        private boolean canBeBehind(int rival, int person, int turn) {
            int lastLetter = trial.letterInOrder(LETTERS - 1, turn);
            for (int i = 0; i < trial.lengths[person]; i++) {
                trial.putLetter(person, i, lastLetter);
            }
            return trial.isBefore(rival, person, turn);
        }

        /** Tries all NAMES with so many changes from a place on, the first by LETTERS ahead; a NAME has 4 at most. */
        private static boolean tryNames(Court trial, Court c, int person, int rival, int turn, int place, int changes) {
            int rest = c.lengths[person] - place;
            if (changes > rest) {
                return false;
            }
            if (rest <= 0) {
                return trial.isBefore(rival, person, turn);
            }
            int own = c.letterOf(person, place);
            for (int letter = 0; letter < LETTERS; letter++) {
                int left = letter == own ? changes : changes - 1;
                if (left >= 0) {
                    trial.putLetter(person, place, letter);
                    if (tryNames(trial, c, person, rival, turn, place + 1, left)) {
                        return true;
                    }
                }
            }
            return false;
        }
    }

    /** Looks for the row of a WARDEN. */
    private static final class Planner {
        final int[] bestRow = new int[MOST_PEOPLE];
        int size;
        int least;
        private final int[] row = new int[MOST_PEOPLE];
        /** For each seat the DAY on which it can be taken. */
        private final int[] openDays = new int[MOST_SEATS];
        private int seats;

        void plan(Court c) {
            openSeats(c);
            size = 0;
            least = NEVER;
            int waiting = 0;
            int past = 0;
            for (int p = 0; p < c.people; p++) {
                if (c.stateOf(p) == WAITS) {
                    waiting |= 1 << p;
                    size++;
                } else {
                    past += c.isSeated(p) ? c.seated[p] : c.lives[p];
                }
            }
            seatOneByOne(this, c, 0, waiting, past);
        }

        private void openSeats(Court c) {
            seats = 0;
            for (int p = 0; p < c.people; p++) {
                if (c.stateOf(p) == SERVES && seats < MOST_SEATS) {
                    openDays[seats] = c.freeDay(p);
                    seats++;
                }
            }
            for (; seats < c.seats && seats < MOST_SEATS; seats++) {
                openDays[seats] = c.day + 1;
            }
        }

        private int firstOpenSeat() {
            int first = 0;
            for (int s = 1; s < seats; s++) {
                if (openDays[s] < openDays[first]) {
                    first = s;
                }
            }
            return first;
        }

        /** Goes one level deeper with each of the PEOPLE, 6 at most, those of lesser numbers ahead. */
        private static void seatOneByOne(Planner plan, Court c, int place, int waiting, int sum) {
            // who is still to come only adds to the sum
            if (sum >= plan.least) {
                return;
            }
            if (place >= plan.size) {
                plan.least = sum;
                System.arraycopy(plan.row, 0, plan.bestRow, 0, plan.size);
                return;
            }
            int seat = plan.firstOpenSeat();
            int day = plan.openDays[seat];
            for (int p = 0; p < c.people; p++) {
                if ((waiting >> p & 1) == 1) {
                    plan.row[place] = p;
                    int rest = waiting & ~(1 << p);
                    if (day < c.lives[p]) {
                        plan.openDays[seat] = day + c.terms[p];
                        seatOneByOne(plan, c, place + 1, rest, sum + day);
                        plan.openDays[seat] = day;
                    } else {
                        seatOneByOne(plan, c, place + 1, rest, sum + c.lives[p]);
                    }
                }
            }
        }
    }

    /** ASKS of PEOPLE, by BODIES that leave their numbers in THE TRACE. */
    private static final class Asks {
        /** By KIND: the BODY that begins. */
        private static final int[] SIZE_BODY = {10, 11, 12, 11, 13, 14};
        private static final int[] MARK_BODY = {20, 21, 24, 22, 23, 23};
        private static final int DEEPEST = 12;

        final int[] trail = new int[MOST_TRACE];
        int traced;

        int answer(Court c, int person, int what) {
            traced = 0;
            int kind = c.kinds[person];
            return give(this, c, person, what == 0 ? SIZE_BODY[kind] : MARK_BODY[kind], 0);
        }

        private void leave(int body) {
            if (traced < MOST_TRACE) {
                trail[traced] = body;
                traced++;
            }
        }

        private static int give(Asks asks, Court c, int person, int body, int depth) {
            if (depth > DEEPEST) {
                return 0;
            }
            asks.leave(body);
            int deeper = depth + 1;
            int kind = c.kinds[person];
            switch (body) {
                case 10:
                    return c.terms[person];
                case 11:
                    return give(asks, c, person, 10, deeper) + give(asks, c, person, MARK_BODY[kind], deeper);
                case 12:
                    return 0 - give(asks, c, person, 11, deeper);
                case 13:
                    return give(asks, c, person, 10, deeper) - 100;
                case 14:
                    return give(asks, c, person, 13, deeper) * 2;
                case 20:
                    return person;
                case 21:
                    return give(asks, c, person, 20, deeper) + c.lengths[person];
                case 22:
                    return give(asks, c, person, 21, deeper) - 1000;
                case 23:
                    return give(asks, c, person, 20, deeper) - give(asks, c, person, SIZE_BODY[kind], deeper);
                case 24:
                    return give(asks, c, person, 21, deeper) * 2;
                default:
                    return 0;
            }
        }
    }
}
