/**
 * Calls at the ends of what may be: the least and the greatest number are answered, the next ones on
 * either side (and the farthest ints) are refused, and what is refused changes nothing but its count.
 */
final class Edge {
    interface Made {
        EverybodyHasTheBook fresh();
    }

    interface Asked {
        long of(EverybodyHasTheBook x, int v);
    }

    interface Call {
        long on(EverybodyHasTheBook x);
    }

    private static final int REFUSALS_END = 17;
    private static final int NO_COUNT = -1;
    private static final int MOST_TOLD = 400;

    private final String what;
    private final Made made;
    private final Asked asked;
    private int least;
    private int most;

    private Edge(String what, Made made, Asked asked) {
        this.what = what;
        this.made = made;
        this.asked = asked;
    }

    static Edge of(String what, Made made, Asked asked) {
        return new Edge(what, made, asked);
    }

    Edge least(int v, long due) {
        least = v;
        answered(what + ", least " + v, made, x -> asked.of(x, v), due);
        return this;
    }

    Edge most(int v, long due) {
        most = v;
        answered(what + ", most " + v, made, x -> asked.of(x, v), due);
        return this;
    }

    void elseRefused(long due) {
        for (int v : outside()) {
            refused(what + " " + v, made, x -> asked.of(x, v), due);
        }
    }

    /** For calls that refuse nothing: outside they answer something, and not even a count changes. */
    void elseUnrefused(long due) {
        for (int v : outside()) {
            thought(what + " " + v, made, x -> asked.of(x, v), due);
        }
    }

    private int[] outside() {
        return new int[] {least - 1, most + 1, Integer.MIN_VALUE, Integer.MAX_VALUE};
    }

    static void answered(String what, Made made, Call call, long due) {
        EverybodyHasTheBook x = made.fresh();
        int before = refusals(x);
        Due.is(what, call.on(x), due);
        Due.is(what + ": nothing is refused", refusals(x), before);
    }

    private static int refusals(EverybodyHasTheBook x) {
        return x.status(12) + x.status(13) + x.status(14) + x.status(15) + x.status(16);
    }

    /** A refusal, by its number or as -1000000 and the number. */
    static void refused(String what, Made made, Call call, long due) {
        int why = (int) (due < -1000000 ? due + 1000000 : due);
        changesNothing(what, made, call, due, 10 - why);
    }

    /** A call that changes nothing at all. */
    static void thought(String what, Made made, Call call, long due) {
        changesNothing(what, made, call, due, NO_COUNT);
    }

    /** A text on THE TAPE that is no VALLEY: it is refused, and THE TAPE is empty; nothing else changes. */
    static void faulty(String what, Made made, String text, int place) {
        EverybodyHasTheBook x = made.fresh();
        EverybodyHasTheBook twin = made.fresh();
        Due.is(what + ": " + text, Due.valley(x, text), -20 - place);
        twin.wipe();
        sameBut(what + ": " + text, x, twin, 12);
    }

    private static void changesNothing(String what, Made made, Call call, long due, int counted) {
        EverybodyHasTheBook x = made.fresh();
        EverybodyHasTheBook twin = made.fresh();
        Due.is(what, call.on(x), due);
        sameBut(what, x, twin, counted);
    }

    private static void sameBut(String what, EverybodyHasTheBook x, EverybodyHasTheBook twin, int counted) {
        long[] got = told(x);
        long[] want = told(twin);
        if (counted != NO_COUNT) {
            want[counted]++;
        }
        int otherwise = java.util.Arrays.mismatch(got, want);
        Due.is(what + " changes nothing but its count (place in all that is told)", otherwise, -1);
    }

    /** All that can be told of an object: the REFUSALS, what is now, what the image kept, what THE TAPE says. */
    static long[] told(EverybodyHasTheBook x) {
        long[] all = new long[MOST_TOLD];
        for (int why = 12; why < REFUSALS_END; why++) {
            all[why] = x.status(why);
        }
        int size = tellNow(x, all, REFUSALS_END);
        all[size++] = x.back();
        size = tellNow(x, all, size);
        all[size++] = x.valley();
        all[size++] = x.status(0);
        all[size++] = x.status(2);
        return all;
    }

    private static int tellNow(EverybodyHasTheBook x, long[] all, int from) {
        int size = from;
        for (int what = 0; what < 10; what++) {
            all[size++] = x.status(what);
        }
        for (int inn = 0; inn < x.status(0); inn++) {
            for (int what = 0; what < 7; what++) {
                all[size++] = x.innOf(inn, what);
            }
        }
        for (int goer = 0; goer < x.status(1); goer++) {
            for (int what = 0; what < 3; what++) {
                all[size++] = x.goerOf(goer, what);
            }
        }
        for (int s = 0; s < 8; s++) {
            all[size++] = x.holds(s);
            for (int i = 0; i < 4; i++) {
                all[size++] = x.element(s, i);
            }
        }
        return size;
    }

    /** Three INNS, three GOERS, SHELVES of all sorts, a TAPE, an image that isn't as things are. */
    static EverybodyHasTheBook busy() {
        EverybodyHasTheBook x = new EverybodyHasTheBook();
        x.inn(60, 3, 20);
        x.inn(80, 2, 41);
        x.inn(50, 9, 9);
        x.goer(1, 4, 0);
        x.goer(3, 3, 5);
        x.goer(5, 2, 1);
        x.say(0, 70);
        x.say(2, 50);
        x.letter(0, 40);
        x.letter(2, 51);
        x.letter(2, 60);
        x.age(3);
        x.row(0, 2, 4);
        x.set(0, 1, 77);
        x.row(1, 2, 3);
        x.row(2, 4, 2);
        x.show(3, 1);
        x.row(4, 0, 9);
        Due.feed(x, "age 7");
        x.seed(99);
        x.image();
        x.change(1, 0, 75);
        x.age(4);
        return x;
    }

    /** Six INNS and six GOERS: as many as there may be. */
    static EverybodyHasTheBook six() {
        EverybodyHasTheBook x = new EverybodyHasTheBook();
        for (int k = 0; k < 6; k++) {
            x.inn(50 + k, 5, 10 * k);
            x.goer(k, 2, 1);
        }
        return x;
    }

    /** A valley that stays as it is: ten heads in twenty ROOMS, GOOD 50, PRICE 10; JOY 400, TAKEN 100 a YEAR. */
    static EverybodyHasTheBook steady() {
        EverybodyHasTheBook x = new EverybodyHasTheBook();
        x.inn(50, 20, 10);
        x.goer(0, 10, 0);
        return x;
    }
}
