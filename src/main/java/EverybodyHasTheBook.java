/** Inns in a valley, the book that everybody has, and what a year makes of both. README.md says how to use it. */
public final class EverybodyHasTheBook {
    public static final int NONE = -1;

    private static final int BAD = -2;
    private static final int OTHER = -3;
    private static final int NOTHING = -4;
    private static final int STUCK = -5;
    private static final int NO_ROOM = -6;
    private static final int FINE = 0;
    private static final int REFUSAL_KINDS = 5;
    private static final int WHERE_BELOW_ZERO_IS_AN_ANSWER = -1000000;
    private static final int FAULT_BASE = -20;

    private static final int MOST_INNS = 6;
    private static final int MOST_GOERS = 6;
    private static final int MOST_GOOD = 100;
    private static final int MOST_ROOMS = 20;
    private static final int MOST_PRICE = 99;
    private static final int MOST_LETTERS = 99;
    private static final int MOST_COMING = 40;
    private static final int MOST_AGE = 99;
    private static final int MOST_HEADS = 30;
    private static final int MOST_A = 99;
    private static final int MOST_YEARS = 12;
    private static final int MOST_ROUND_YEARS = 3;
    private static final int FARTHEST_YEAR = 30;
    private static final int MOST_BYTES = 250;
    private static final int MOST_DIGITS = 3;
    private static final int SHELVES = 8;
    private static final int MOST_ELEMENTS = 40;

    private static final int GOER = 0;
    private static final int BOOKED = 1;
    private static final int AGAINST = 2;
    private static final int OWN = 3;
    private static final int LETTERED = 4;
    private static final int LATE = 5;
    private static final int KINDS = 6;

    private static final int JOY_OUT = -30;
    private static final int JOY_LOST_IN_THE_CROWD = 20;
    private static final int LETTER_OF_THE_MISLED = 10;
    private static final int WEAR_OF_A_FULL_YEAR = 6;
    private static final int GAIN_OF_A_QUIET_YEAR = 3;

    private static final int BYTES = 0;
    private static final int SHORTS = 1;
    private static final int INTS = 2;
    private static final int LONGS = 3;
    private static final int BOOLEANS = 4;
    private static final int SORTS = 5;
    private static final int FIRST_HELD_GOER = 10;

    private final Valley now = new Valley();
    private final Valley thought = new Valley();
    private final Valley picture = new Valley();
    private boolean pictured;
    private final Shelf[] shelves = new Shelf[SHELVES];
    private final Tape tape = new Tape();
    private final int[] refusals = new int[REFUSAL_KINDS];

    public EverybodyHasTheBook() {
        for (int s = 0; s < SHELVES; s++) {
            shelves[s] = new Shelf();
        }
    }

    // ---- shelves

    public int row(int s, int sort, int n) {
        if (!isShelf(s) || !within(sort, 0, SORTS - 1) || !within(n, 0, MOST_ELEMENTS)) {
            return refuse(BAD);
        }
        shelves[s].holdRow(sort, n);
        return 1;
    }

    public int set(int s, int i, long v) {
        int fault = rowFault(s);
        if (fault != FINE) {
            return refuse(fault);
        }
        if (!within(i, 0, shelves[s].size - 1)) {
            return refuse(BAD);
        }
        shelves[s].put(i, v);
        return 1;
    }

    public int copy(int p, int q, int i, int j, int n) {
        if (!isShelf(p) || !isShelf(q)) {
            return refuse(BAD);
        }
        Shelf from = shelves[p];
        Shelf to = shelves[q];
        boolean bothHold = from.held != NONE && to.held != NONE;
        if (from.holdsGoer() || to.holdsGoer() || bothHold && from.held != to.held) {
            return refuse(OTHER);
        }
        if (!bothHold) {
            return refuse(NOTHING);
        }
        if (!from.hasRun(i, n) || !to.hasRun(j, n)) {
            return refuse(BAD);
        }
        System.arraycopy(from.elements, i, to.elements, j, n);
        return n;
    }

    public long element(int s, int i) {
        if (!isShelf(s) || !shelves[s].holdsRow() || !within(i, 0, shelves[s].size - 1)) {
            return 0;
        }
        return shelves[s].elements[i];
    }

    public int holds(int s) {
        return isShelf(s) ? shelves[s].held : NONE;
    }

    public int show(int s, int goer) {
        if (!isShelf(s) || !isGoerOrNone(goer)) {
            return refuse(BAD);
        }
        shelves[s].held = goer == NONE ? NONE : FIRST_HELD_GOER + goer;
        return 1;
    }

    public int says(int s, int kind) {
        if (!isShelf(s) || !within(kind, 0, KINDS - 1)) {
            return refuse(BAD);
        }
        Shelf shelf = shelves[s];
        if (shelf.holdsRow()) {
            return refuse(OTHER);
        }
        int number = shelf.held - FIRST_HELD_GOER;
        if (!isGoer(number)) {
            return refuse(NOTHING);
        }
        Goer goer = now.goers[number];
        if (!goer.isOf(kind)) {
            return refuse(OTHER);
        }
        return kind == GOER ? goer.heads : now.firstChoice(goer);
    }

    // ---- the valley

    public int inn(int good, int rooms, int price) {
        if (!isGood(good) || !within(rooms, 1, MOST_ROOMS) || !within(price, 0, MOST_PRICE)) {
            return refuse(BAD);
        }
        int number = now.addInn(good, rooms, price);
        return number == NONE ? refuse(NO_ROOM) : number;
    }

    public int goer(int kind, int heads, int a) {
        if (!within(kind, 0, KINDS - 1) || !within(heads, 1, MOST_HEADS) || !within(a, 0, MOST_A)) {
            return refuse(BAD);
        }
        int number = now.addGoer(kind, heads, a);
        return number == NONE ? refuse(NO_ROOM) : number;
    }

    public int change(int inn, int what, int v) {
        if (!isInn(inn) || !within(what, 0, 1) || !within(v, 0, what == 0 ? MOST_GOOD : MOST_PRICE)) {
            return refuse(BAD);
        }
        Inn changed = now.inns[inn];
        int was = what == 0 ? changed.good : changed.price;
        if (what == 0) {
            changed.good = v;
        } else {
            changed.price = v;
        }
        return was;
    }

    public int say(int inn, int v) {
        if (!isInn(inn) || v != NONE && !isGood(v)) {
            return refuse(BAD);
        }
        int was = now.inns[inn].said;
        now.inns[inn].said = v;
        return was;
    }

    public int write(int inns) {
        return isSet(inns) ? now.writeBook(inns) : refuse(BAD);
    }

    public int letter(int inn, int v) {
        if (!isInn(inn) || !isGood(v)) {
            return refuse(BAD);
        }
        return now.inns[inn].receiveLetter(v) ? now.inns[inn].letters : refuse(NO_ROOM);
    }

    public int age(int v) {
        if (!within(v, 0, MOST_AGE)) {
            return refuse(BAD);
        }
        int was = now.age;
        now.age = v;
        return was;
    }

    public int heads(int goer, int v) {
        if (!isGoer(goer) || !within(v, 1, MOST_HEADS)) {
            return refuse(BAD);
        }
        int was = now.goers[goer].heads;
        now.goers[goer].heads = v;
        return was;
    }

    public int feed(int letter) {
        if (!within(letter, 0, 255)) {
            return refuse(BAD);
        }
        return tape.append(letter) ? tape.size : refuse(NO_ROOM);
    }

    public int wipe() {
        int was = tape.size;
        tape.size = 0;
        return was;
    }

    public int valley() {
        int statements = tape.readInto(think());
        tape.size = 0;
        if (statements == NONE) {
            refuse(BAD);
            return FAULT_BASE - tape.tokenStart;
        }
        now.becomeLike(thought);
        return statements;
    }

    public int innOf(int inn, int what) {
        if (!isInn(inn)) {
            return refuse(BAD);
        }
        Inn asked = now.inns[inn];
        switch (what) {
            case 0: return asked.good;
            case 1: return asked.base;
            case 2: return asked.rooms;
            case 3: return asked.price;
            case 4: return asked.said;
            case 5: return asked.letters;
            case 6: return asked.lettersTogether;
            default: return refuse(BAD);
        }
    }

    public int goerOf(int goer, int what) {
        if (!isGoer(goer)) {
            return refuse(BAD);
        }
        Goer asked = now.goers[goer];
        switch (what) {
            case 0: return asked.kind;
            case 1: return asked.heads;
            case 2: return asked.a;
            default: return refuse(BAD);
        }
    }

    // ---- tonight

    public int score(int goer, int inn) {
        if (!isGoer(goer) || !isInn(inn)) {
            return refuseBelowZero(BAD);
        }
        return now.scoreOf(now.goers[goer], now.inns[inn]);
    }

    public int sleeps(int goer, int inn) {
        if (!isGoer(goer) || !isInn(inn)) {
            return refuse(BAD);
        }
        return tonight().goers[goer].sleeping[inn];
    }

    public int guests(int inn) {
        return isInn(inn) ? tonight().inns[inn].guests : refuse(BAD);
    }

    public int out(int goer) {
        if (!isGoerOrNone(goer)) {
            return refuse(BAD);
        }
        return goer == NONE ? tonight().outsideOfAll() : tonight().goers[goer].outside;
    }

    public int full() {
        return tonight().fullInns();
    }

    public int joy(int goer) {
        if (!isGoerOrNone(goer)) {
            return refuseBelowZero(BAD);
        }
        return goer == NONE ? tonight().joyOfAll() : tonight().joyOf(now.goers[goer]);
    }

    public int taken(int inn) {
        return isInn(inn) ? tonight().inns[inn].takenTonight() : refuse(BAD);
    }

    public int crowd(int inn) {
        return isInn(inn) ? now.crowdOf(inn) : refuse(BAD);
    }

    public int lean(int inn) {
        if (!isInn(inn)) {
            return refuseBelowZero(BAD);
        }
        if (now.inns[inn].letters < 1) {
            return refuseBelowZero(STUCK);
        }
        return now.inns[inn].leanWith(0, 0);
    }

    public int truest() {
        int best = now.truestInn();
        return best == NONE ? refuse(STUCK) : best;
    }

    public int oldest() {
        int best = NONE;
        int farthest = NONE;
        for (int i = 0; i < now.innCount; i++) {
            Inn inn = now.inns[i];
            int far = inn.said == NONE ? NONE : Math.abs(inn.said - inn.good);
            if (far > farthest) {
                best = i;
                farthest = far;
            }
        }
        return best;
    }

    public int enough(int inn) {
        if (!isInn(inn)) {
            return refuse(BAD);
        }
        for (int rooms = 1; rooms <= MOST_ROOMS; rooms++) {
            think().inns[inn].rooms = rooms;
            thought.spendNight();
            if (!thought.inns[inn].isFull()) {
                return rooms;
            }
        }
        return NONE;
    }

    public int better(int goer) {
        if (!isGoer(goer)) {
            return refuse(BAD);
        }
        int best = NONE;
        int greatest = 0;
        for (int kind = 0; kind < KINDS; kind++) {
            think().goers[goer].kind = kind;
            thought.spendNight();
            int joy = thought.joyOf(thought.goers[goer]);
            if (best == NONE || joy > greatest) {
                best = kind;
                greatest = joy;
            }
        }
        return best;
    }

    public int trust(int inn) {
        if (!isInn(inn)) {
            return refuse(BAD);
        }
        think();
        for (int age = MOST_AGE; age >= 0; age--) {
            thought.age = age;
            if (thought.crowdOf(inn) > 0) {
                return age;
            }
        }
        return NONE;
    }

    public int share(int goer) {
        if (!isGoer(goer)) {
            return refuse(BAD);
        }
        int inn = now.truestInn();
        int heads = now.goers[goer].heads;
        if (!isInn(inn) || heads < 1) {
            return refuse(STUCK);
        }
        return 100 * tonight().goers[goer].sleeping[inn] / heads;
    }

    public int nine(int inn, int n, int v) {
        if (!isInn(inn) || !within(n, 1, MOST_COMING) || !isGood(v)) {
            return refuseBelowZero(BAD);
        }
        return now.inns[inn].leanWith(n, v);
    }

    public int two(int inns, int others) {
        if (!isSet(inns) || !isSet(others)) {
            return refuseBelowZero(BAD);
        }
        think().spendNightWithTwoBooks(inns, others);
        return thought.joyOfAll();
    }

    public int judge(int s) {
        int fault = rowFault(s);
        if (fault != FINE) {
            return refuse(fault);
        }
        Shelf told = shelves[s];
        if (told.size < now.goerCount * now.innCount) {
            return refuse(BAD);
        }
        now.spendNight();
        int place = 0;
        for (int g = 0; g < now.goerCount; g++) {
            for (int i = 0; i < now.innCount; i++) {
                if (told.elements[place] != now.goers[g].sleeping[i]) {
                    return place;
                }
                place++;
            }
        }
        return NONE;
    }

    // ---- what comes of it

    public int years(int n, int goer) {
        if (!isSpan(n) || !isGoerOrNone(goer)) {
            return refuseBelowZero(BAD);
        }
        int joy = think().passYears(n);
        return goer == NONE ? joy : thought.goers[goer].joyInYears;
    }

    public int then(int n, int inn, int what) {
        if (!isSpan(n) || !isInn(inn) || !within(what, 0, 2)) {
            return refuse(BAD);
        }
        think().passYears(n);
        Inn asked = thought.inns[inn];
        if (what == 0) {
            return asked.good;
        }
        return what == 1 ? asked.price : asked.takenInYears;
    }

    public int book(int n, int k) {
        if (!isSpan(n) || !within(k, 0, MOST_INNS)) {
            return refuse(BAD);
        }
        return bestBook(n, k, false);
    }

    public int written(int n, int inns) {
        if (!isSpan(n) || !isSet(inns)) {
            return refuseBelowZero(BAD);
        }
        return joyIfWritten(n, inns);
    }

    public int many(int n) {
        if (!isSpan(n)) {
            return refuse(BAD);
        }
        return Integer.bitCount(bestBook(n, MOST_INNS, true));
    }

    public int round(int n, int i) {
        if (!within(n, 1, MOST_ROUND_YEARS) || i != NONE && !within(i, 0, n - 1)) {
            return refuseBelowZero(BAD);
        }
        int best = 0;
        int greatest = joyIfGoneRound(n, 0);
        int rows = power(now.innCount + 1, n);
        for (int row = 1; row < rows; row++) {
            int joy = joyIfGoneRound(n, row);
            if (joy > greatest) {
                best = row;
                greatest = joy;
            }
        }
        return i == NONE ? greatest : innOfRound(n, best, i);
    }

    public int kept(int n, int inn) {
        if (!isSpan(n) || !isInn(inn)) {
            return refuseBelowZero(BAD);
        }
        if (now.inns[inn].said == NONE) {
            return refuseBelowZero(STUCK);
        }
        think().passYears(n);
        int asItIs = thought.joyInYearsOfOwn();
        think().inns[inn].said = NONE;
        thought.passYears(n);
        return thought.joyInYearsOfOwn() - asItIs;
    }

    public int called(int n, int inn, int v) {
        if (!isSpan(n) || !isInn(inn) || !isGood(v)) {
            return refuseBelowZero(BAD);
        }
        int asItIs = think().passYears(n);
        think().inns[inn].said = v;
        return thought.passYears(n) - asItIs;
    }

    public int spoilt(int inn, int g) {
        if (!isInn(inn) || !isGood(g)) {
            return refuse(BAD);
        }
        think();
        for (int year = 1; year <= FARTHEST_YEAR; year++) {
            thought.passYears(1);
            if (thought.inns[inn].good < g) {
                return year;
            }
        }
        return NONE;
    }

    public int bears(int goer, int inn, int n, int g) {
        if (!isGoer(goer) || !isInn(inn) || !isSpan(n) || !isGood(g)) {
            return refuse(BAD);
        }
        for (int heads = MOST_HEADS; heads >= 1; heads--) {
            think().goers[goer].heads = heads;
            if (thought.staysGood(inn, n, g)) {
                return heads;
            }
        }
        return NONE;
    }

    public int recovers(int inn) {
        if (!isInn(inn)) {
            return refuse(BAD);
        }
        think().writeBook(0);
        for (int year = 1; year <= FARTHEST_YEAR; year++) {
            thought.passYears(1);
            if (thought.inns[inn].good >= thought.inns[inn].base) {
                return year;
            }
        }
        return NONE;
    }

    public int dearest(int n, int inn) {
        if (!isSpan(n) || !isInn(inn)) {
            return refuse(BAD);
        }
        int best = 0;
        int most = NONE;
        for (int price = 0; price <= MOST_PRICE; price++) {
            think().inns[inn].price = price;
            thought.passYears(n);
            if (thought.inns[inn].takenInYears > most) {
                best = price;
                most = thought.inns[inn].takenInYears;
            }
        }
        return best;
    }

    // ---- in truth

    public int year() {
        return now.passYears(1);
    }

    public int goes(int n) {
        return isSpan(n) ? now.passYears(n) : refuseBelowZero(BAD);
    }

    public int post(int n) {
        if (!within(n, 1, MOST_COMING)) {
            return refuse(BAD);
        }
        if (now.innCount < 1) {
            return refuse(STUCK);
        }
        int came = 0;
        for (int drawn = 0; drawn < n; drawn++) {
            if (now.drawLetter()) {
                came++;
            }
        }
        return came;
    }

    public int seed(int v) {
        int was = now.seed;
        now.seed = v;
        return was;
    }

    public int image() {
        picture.becomeLike(now);
        pictured = true;
        return 1;
    }

    public int back() {
        if (!pictured) {
            return refuse(STUCK);
        }
        now.becomeLike(picture);
        for (int s = 0; s < SHELVES; s++) {
            if (shelves[s].holdsGoer() && !isGoer(shelves[s].held - FIRST_HELD_GOER)) {
                shelves[s].held = NONE;
            }
        }
        return 1;
    }

    public int status(int what) {
        switch (what) {
            case 0: return now.innCount;
            case 1: return now.goerCount;
            case 2: return now.age;
            case 3: return now.innsInBook();
            case 4: return now.roomsOfAll();
            case 5: return now.headsOfAll();
            case 6: return now.yearsGone;
            case 7: return tape.size;
            case 8: return now.seed;
            case 9: return shelvesInUse();
            case 12: case 13: case 14: case 15: case 16: return refusals[what - 12];
            default: return NONE;
        }
    }

    // ---- what the calls have in common

    private int refuse(int why) {
        int place = BAD - why;
        if (within(place, 0, REFUSAL_KINDS - 1)) {
            refusals[place]++;
        }
        return why;
    }

    private int refuseBelowZero(int why) {
        return WHERE_BELOW_ZERO_IS_AN_ANSWER + refuse(why);
    }

    private static boolean within(int v, int least, int most) {
        return v >= least && v <= most;
    }

    private static boolean isShelf(int s) {
        return within(s, 0, SHELVES - 1);
    }

    private static boolean isGood(int v) {
        return within(v, 0, MOST_GOOD);
    }

    private static boolean isSpan(int n) {
        return within(n, 1, MOST_YEARS);
    }

    private boolean isInn(int inn) {
        return within(inn, 0, now.innCount - 1);
    }

    private boolean isGoer(int goer) {
        return within(goer, 0, now.goerCount - 1);
    }

    private boolean isGoerOrNone(int goer) {
        return goer == NONE || isGoer(goer);
    }

    private boolean isSet(int inns) {
        return within(inns, 0, (1 << now.innCount) - 1);
    }

    private int rowFault(int s) {
        if (!isShelf(s)) {
            return BAD;
        }
        if (shelves[s].holdsGoer()) {
            return OTHER;
        }
        return shelves[s].holdsRow() ? FINE : NOTHING;
    }

    private int shelvesInUse() {
        int inUse = 0;
        for (int s = 0; s < SHELVES; s++) {
            if (shelves[s].held != NONE) {
                inUse++;
            }
        }
        return inUse;
    }

    private Valley tonight() {
        now.spendNight();
        return now;
    }

    private Valley think() {
        thought.becomeLike(now);
        return thought;
    }

    private int joyIfWritten(int n, int inns) {
        think().writeBook(inns);
        return thought.passYears(n);
    }

    private int bestBook(int n, int k, boolean fewestFirst) {
        int best = 0;
        int greatest = joyIfWritten(n, 0);
        int sets = 1 << now.innCount;
        for (int inns = 1; inns < sets; inns++) {
            int size = Integer.bitCount(inns);
            if (size > k) {
                continue;
            }
            int joy = joyIfWritten(n, inns);
            boolean fewer = fewestFirst && size < Integer.bitCount(best);
            if (joy > greatest || joy == greatest && fewer) {
                best = inns;
                greatest = joy;
            }
        }
        return best;
    }

    // A ROW of the round is a number of n digits to the base INNS + 1, the first year's digit in
    // front and 0 for none: so the first ROW of several is the least number.

    private int joyIfGoneRound(int n, int row) {
        think();
        int joy = 0;
        for (int y = 0; y < n; y++) {
            int inn = innOfRound(n, row, y);
            if (isInn(inn)) {
                thought.inns[inn].said = thought.inns[inn].good;
            }
            joy += thought.passYears(1);
        }
        return joy;
    }

    private int innOfRound(int n, int row, int y) {
        int base = now.innCount + 1;
        int behind = power(base, n - 1 - y);
        return base < 1 || behind < 1 ? NONE : row / behind % base - 1;
    }

    private static int power(int base, int exponent) {
        int result = 1;
        for (int i = 0; i < exponent; i++) {
            result *= base;
        }
        return result;
    }

    /** What stands on one SHELF; held is told as holds() tells it. */
    private static final class Shelf {
        int held = NONE;
        int size;
        final long[] elements = new long[MOST_ELEMENTS];

        boolean holdsRow() {
            return within(held, 0, SORTS - 1);
        }

        boolean holdsGoer() {
            return held >= FIRST_HELD_GOER;
        }

        void holdRow(int sort, int n) {
            held = sort;
            size = n;
            for (int i = 0; i < MOST_ELEMENTS; i++) {
                elements[i] = 0;
            }
        }

        boolean hasRun(int from, int n) {
            return n >= 0 && within(from, 0, size - n);
        }

        void put(int i, long v) {
            elements[i] = lowestBits(v);
        }

        private long lowestBits(long v) {
            switch (held) {
                case BYTES: return (byte) v;
                case SHORTS: return (short) v;
                case INTS: return (int) v;
                case BOOLEANS: return v != 0 ? 1 : 0;
                case LONGS: default: return v;
            }
        }
    }

    /** One INN, with what the last NIGHT and the YEARS counted so far brought it. */
    private static final class Inn {
        int good;
        int base;
        int rooms;
        int price;
        int said;
        int letters;
        int lettersTogether;
        int guests;
        int takenInYears;

        void open(int newGood, int newRooms, int newPrice) {
            good = newGood;
            base = newGood;
            rooms = newRooms;
            price = newPrice;
            said = NONE;
            letters = 0;
            lettersTogether = 0;
        }

        void becomeLike(Inn other) {
            good = other.good;
            base = other.base;
            rooms = other.rooms;
            price = other.price;
            said = other.said;
            letters = other.letters;
            lettersTogether = other.lettersTogether;
        }

        boolean hasRoomForLetter() {
            return letters < MOST_LETTERS;
        }

        boolean receiveLetter(int v) {
            if (!hasRoomForLetter()) {
                return false;
            }
            letters++;
            lettersTogether += v;
            return true;
        }

        int leanWith(int n, int v) {
            int many = letters + n;
            return many < 1 ? 0 : (lettersTogether + n * v) / many - good;
        }

        boolean isFull() {
            return guests >= rooms;
        }

        int joyOfHead() {
            return good - price - (isFull() ? JOY_LOST_IN_THE_CROWD : 0);
        }

        int takenTonight() {
            return price * guests;
        }

        void growOlder() {
            takenInYears += takenTonight();
            if (guests > 0) {
                boolean misled = said != NONE && good < said;
                receiveLetter(misled ? Math.max(0, good - LETTER_OF_THE_MISLED) : good);
            }
            if (isFull()) {
                good = Math.max(0, good - WEAR_OF_A_FULL_YEAR);
                price = Math.min(MOST_PRICE, price + price / 4 + 1);
            } else if (2 * guests < rooms) {
                good = good < base ? Math.min(base, good + GAIN_OF_A_QUIET_YEAR) : good;
                price = Math.max(0, price - 1);
            }
        }
    }

    /** The GOERS of one number, with where they are in the last NIGHT. */
    private static final class Goer {
        int kind;
        int heads;
        int a;
        final int[] sleeping = new int[MOST_INNS];
        int outside;
        int joyInYears;

        void become(int newKind, int newHeads, int newA) {
            kind = newKind;
            heads = newHeads;
            a = newA;
        }

        boolean isOf(int wanted) {
            return wanted == GOER || wanted == kind || wanted == BOOKED && goesByBook();
        }

        void leaveBeds() {
            outside = 0;
            for (int i = 0; i < MOST_INNS; i++) {
                sleeping[i] = 0;
            }
        }

        boolean goesByBook() {
            return kind != GOER && kind != OWN;
        }

        boolean comesLate() {
            return kind == LATE;
        }
    }

    /** INNS, GOERS and the AGE of the BOOK, in truth or in thought. */
    private static final class Valley {
        final Inn[] inns = new Inn[MOST_INNS];
        final Goer[] goers = new Goer[MOST_GOERS];
        int innCount;
        int goerCount;
        int age;
        int yearsGone;
        int seed = 1;
        private final int[] scores = new int[MOST_INNS];
        private final Goer[] coming = new Goer[MOST_GOERS];

        Valley() {
            for (int i = 0; i < MOST_INNS; i++) {
                inns[i] = new Inn();
            }
            for (int g = 0; g < MOST_GOERS; g++) {
                goers[g] = new Goer();
                coming[g] = goers[g];
            }
        }

        // Nights and sums of years are not taken over: each is reckoned before it is asked for.
        void becomeLike(Valley other) {
            innCount = other.innCount;
            goerCount = other.goerCount;
            age = other.age;
            yearsGone = other.yearsGone;
            seed = other.seed;
            for (int i = 0; i < innCount; i++) {
                inns[i].becomeLike(other.inns[i]);
            }
            for (int g = 0; g < goerCount; g++) {
                Goer goer = other.goers[g];
                goers[g].become(goer.kind, goer.heads, goer.a);
            }
        }

        int addInn(int good, int rooms, int price) {
            if (innCount >= MOST_INNS) {
                return NONE;
            }
            inns[innCount].open(good, rooms, price);
            innCount++;
            return innCount - 1;
        }

        int addGoer(int kind, int heads, int a) {
            if (goerCount >= MOST_GOERS) {
                return NONE;
            }
            goers[goerCount].become(kind, heads, a);
            goerCount++;
            return goerCount - 1;
        }

        int writeBook(int set) {
            int many = 0;
            for (int i = 0; i < innCount; i++) {
                boolean isIn = (set >> i & 1) == 1;
                inns[i].said = isIn ? inns[i].good : NONE;
                many += isIn ? 1 : 0;
            }
            age = 0;
            return many;
        }

        int innsInBook() {
            int set = 0;
            for (int i = 0; i < innCount; i++) {
                set |= inns[i].said == NONE ? 0 : 1 << i;
            }
            return set;
        }

        int roomsOfAll() {
            int together = 0;
            for (int i = 0; i < innCount; i++) {
                together += inns[i].rooms;
            }
            return together;
        }

        int headsOfAll() {
            int together = 0;
            for (int g = 0; g < goerCount; g++) {
                together += goers[g].heads;
            }
            return together;
        }

        int truestInn() {
            int best = NONE;
            for (int i = 0; i < innCount; i++) {
                if (best == NONE || inns[i].good - inns[i].price > inns[best].good - inns[best].price) {
                    best = i;
                }
            }
            return best;
        }

        int scoreOf(Goer goer, Inn inn) {
            int byPrice = 100 - inn.price;
            int byBook = inn.said == NONE ? 0 : Math.max(0, inn.said - 2 * age);
            switch (goer.kind) {
                case GOER:
                    return byPrice;
                case OWN:
                    return inn.good - inn.price / 2;
                case AGAINST:
                    return inn.said == NONE ? byPrice : byBook - goer.a;
                case LETTERED:
                    return inn.letters >= 1 && inn.letters >= goer.a ? inn.lettersTogether / inn.letters : byBook;
                default:
                    return byBook;
            }
        }

        int firstChoice(Goer goer) {
            int best = NONE;
            int greatest = 0;
            for (int i = 0; i < innCount; i++) {
                int score = scoreOf(goer, inns[i]);
                if (best == NONE || score > greatest) {
                    best = i;
                    greatest = score;
                }
            }
            return best;
        }

        int crowdOf(int inn) {
            int crowd = 0;
            for (int g = 0; g < goerCount; g++) {
                if (goers[g].goesByBook() && firstChoice(goers[g]) == inn) {
                    crowd += goers[g].heads;
                }
            }
            return crowd;
        }

        void spendNight() {
            beginNight();
            for (int c = 0; c < goerCount; c++) {
                lodge(coming[c], coming[c].heads);
            }
        }

        void spendNightWithTwoBooks(int set, int others) {
            beginNight();
            for (int c = 0; c < goerCount; c++) {
                Goer goer = coming[c];
                int half = goer.goesByBook() ? goer.heads / 2 : 0;
                writeBook(set);
                lodge(goer, goer.heads - half);
                writeBook(others);
                lodge(goer, half);
            }
        }

        private void beginNight() {
            for (int i = 0; i < innCount; i++) {
                inns[i].guests = 0;
            }
            for (int g = 0; g < goerCount; g++) {
                goers[g].leaveBeds();
            }
            lineUp(false, 0);
            lineUp(true, goerCount - lateOnes());
        }

        private void lineUp(boolean late, int from) {
            int place = from;
            for (int g = 0; g < goerCount; g++) {
                if (goers[g].comesLate() == late && within(place, 0, MOST_GOERS - 1)) {
                    coming[place] = goers[g];
                    place++;
                }
            }
        }

        private int lateOnes() {
            int late = 0;
            for (int g = 0; g < goerCount; g++) {
                late += goers[g].comesLate() ? 1 : 0;
            }
            return late;
        }

        private void lodge(Goer goer, int heads) {
            for (int i = 0; i < innCount; i++) {
                scores[i] = scoreOf(goer, inns[i]);
            }
            int left = heads;
            for (int choices = 0; choices < innCount && left > 0; choices++) {
                int best = bestWithRooms();
                if (best == NONE) {
                    break;
                }
                int stay = Math.min(left, inns[best].rooms - inns[best].guests);
                inns[best].guests += stay;
                goer.sleeping[best] += stay;
                left -= stay;
            }
            goer.outside += left;
        }

        private int bestWithRooms() {
            int best = NONE;
            for (int i = 0; i < innCount; i++) {
                if (!inns[i].isFull() && (best == NONE || scores[i] > scores[best])) {
                    best = i;
                }
            }
            return best;
        }

        int fullInns() {
            int set = 0;
            for (int i = 0; i < innCount; i++) {
                set |= inns[i].isFull() ? 1 << i : 0;
            }
            return set;
        }

        int outsideOfAll() {
            int together = 0;
            for (int g = 0; g < goerCount; g++) {
                together += goers[g].outside;
            }
            return together;
        }

        int joyOf(Goer goer) {
            int joy = JOY_OUT * goer.outside;
            for (int i = 0; i < innCount; i++) {
                joy += goer.sleeping[i] * inns[i].joyOfHead();
            }
            return joy;
        }

        int joyOfAll() {
            int joy = 0;
            for (int g = 0; g < goerCount; g++) {
                joy += joyOf(goers[g]);
            }
            return joy;
        }

        int passYears(int n) {
            for (int i = 0; i < innCount; i++) {
                inns[i].takenInYears = 0;
            }
            for (int g = 0; g < goerCount; g++) {
                goers[g].joyInYears = 0;
            }
            int joy = 0;
            for (int year = 0; year < n; year++) {
                spendNight();
                joy += endYear();
            }
            return joy;
        }

        private int endYear() {
            int joy = 0;
            for (int g = 0; g < goerCount; g++) {
                int joyOfOne = joyOf(goers[g]);
                goers[g].joyInYears += joyOfOne;
                joy += joyOfOne;
            }
            for (int i = 0; i < innCount; i++) {
                inns[i].growOlder();
            }
            age = Math.min(MOST_AGE, age + 1);
            yearsGone++;
            return joy;
        }

        int joyInYearsOfOwn() {
            int joy = 0;
            for (int g = 0; g < goerCount; g++) {
                joy += goers[g].kind == OWN ? goers[g].joyInYears : 0;
            }
            return joy;
        }

        boolean staysGood(int inn, int n, int g) {
            for (int year = 0; year < n; year++) {
                passYears(1);
                if (inns[inn].good < g) {
                    return false;
                }
            }
            return true;
        }

        boolean drawLetter() {
            int inn = draw(innCount);
            int v = inns[inn].good + draw(21) - 10;
            return inns[inn].receiveLetter(Math.max(0, Math.min(MOST_GOOD, v)));
        }

        private int draw(int below) {
            seed = seed * 1103515245 + 12345;
            return below < 1 ? 0 : (seed >>> 16) % below;
        }
    }

    /** THE TAPE and the reading of it; the token last read is the fault, if it can't stand there. */
    private static final class Tape {
        private static final int END = 0;
        private static final int WORD = 1;
        private static final int NUMBER = 2;
        private static final int SIGN = 3;
        private static final int STRAY = 4;

        private final int[] bytes = new int[MOST_BYTES];
        int size;
        int tokenStart;
        private int tokenEnd;
        private int token;

        boolean append(int letter) {
            if (size >= MOST_BYTES) {
                return false;
            }
            bytes[size] = letter;
            size++;
            return true;
        }

        int readInto(Valley valley) {
            tokenEnd = 0;
            readToken();
            for (int statements = 1; statements <= MOST_BYTES; statements++) {
                if (!readStatement(valley)) {
                    return NONE;
                }
                if (token == END) {
                    return statements;
                }
                if (token != SIGN) {
                    return NONE;
                }
                readToken();
            }
            return NONE;
        }

        private boolean readStatement(Valley valley) {
            if (isWord("inn")) {
                return readInn(valley);
            }
            if (isWord("goer")) {
                return readGoer(valley);
            }
            if (isWord("letter")) {
                return readLetter(valley);
            }
            if (isWord("age")) {
                return readAge(valley);
            }
            return isWord("write") && readWrite(valley);
        }

        private boolean readInn(Valley valley) {
            if (valley.innCount >= MOST_INNS) {
                return false;
            }
            readToken();
            int good = takeNumber(0, MOST_GOOD);
            int rooms = good == NONE ? NONE : takeNumber(1, MOST_ROOMS);
            int price = rooms == NONE ? NONE : takeNumber(0, MOST_PRICE);
            if (price == NONE) {
                return false;
            }
            int inn = valley.addInn(good, rooms, price);
            if (inn == NONE || !isWord("said")) {
                return inn != NONE;
            }
            readToken();
            valley.inns[inn].said = takeNumber(0, MOST_GOOD);
            return valley.inns[inn].said != NONE;
        }

        private boolean readGoer(Valley valley) {
            if (valley.goerCount >= MOST_GOERS) {
                return false;
            }
            readToken();
            int kind = takeNumber(0, KINDS - 1);
            int heads = kind == NONE ? NONE : takeNumber(1, MOST_HEADS);
            int a = heads == NONE ? NONE : takeNumber(0, MOST_A);
            return a != NONE && valley.addGoer(kind, heads, a) != NONE;
        }

        private boolean readLetter(Valley valley) {
            readToken();
            int inn = numberWithin(0, valley.innCount - 1);
            if (inn == NONE || !valley.inns[inn].hasRoomForLetter()) {
                return false;
            }
            readToken();
            int v = takeNumber(0, MOST_GOOD);
            return v != NONE && valley.inns[inn].receiveLetter(v);
        }

        private boolean readAge(Valley valley) {
            readToken();
            int age = takeNumber(0, MOST_AGE);
            if (age == NONE) {
                return false;
            }
            valley.age = age;
            return true;
        }

        private boolean readWrite(Valley valley) {
            int set = 0;
            readToken();
            for (int told = 0; told <= MOST_INNS && (told == 0 || token == NUMBER); told++) {
                int inn = numberWithin(0, valley.innCount - 1);
                if (inn == NONE || (set >> inn & 1) == 1) {
                    return false;
                }
                set |= 1 << inn;
                readToken();
            }
            valley.writeBook(set);
            return true;
        }

        private int takeNumber(int least, int most) {
            int taken = numberWithin(least, most);
            if (taken != NONE) {
                readToken();
            }
            return taken;
        }

        private int numberWithin(int least, int most) {
            if (token != NUMBER || tokenEnd - tokenStart > MOST_DIGITS) {
                return NONE;
            }
            int number = 0;
            for (int place = tokenStart; place < tokenEnd; place++) {
                number = 10 * number + byteAt(place) - '0';
            }
            return within(number, least, most) ? number : NONE;
        }

        private boolean isWord(String word) {
            if (token != WORD || tokenEnd - tokenStart != word.length()) {
                return false;
            }
            for (int i = 0; i < word.length(); i++) {
                if (byteAt(tokenStart + i) != word.charAt(i)) {
                    return false;
                }
            }
            return true;
        }

        private void readToken() {
            int place = tokenEnd;
            while (place < size && byteAt(place) == ' ') {
                place++;
            }
            tokenStart = place;
            token = tokenAt(place);
            if (place < size) {
                place++;
            }
            while (place < size && (token == WORD || token == NUMBER) && tokenAt(place) == token) {
                place++;
            }
            tokenEnd = place;
        }

        private int tokenAt(int place) {
            int letter = byteAt(place);
            if (letter == NONE) {
                return END;
            }
            if (letter >= 'a' && letter <= 'z') {
                return WORD;
            }
            if (letter >= '0' && letter <= '9') {
                return NUMBER;
            }
            return letter == ';' ? SIGN : STRAY;
        }

        private int byteAt(int place) {
            return place >= 0 && place < size && place < MOST_BYTES ? bytes[place] : NONE;
        }
    }
}
