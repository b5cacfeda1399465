/** Promises 52 to 58: YEARS in truth, LETTERS by DRAWS, the image, the status. */
public final class TruthTest {
    public static void main(String[] args) {
        year();
        yearsHaveAnEnd();
        goes();
        post();
        postRefuses();
        seed();
        image();
        back();
        backAndShelves();
        status();
        Due.end();
    }

    private static void year() {
        EverybodyHasTheBook x = Due.of("inn 50 2 20 said 50; inn 80 9 40; goer 0 2 0; goer 3 1 0; age 3");
        x.change(1, 0, 79);
        Due.is("52 joy", x.year(), 2 * (50 - 20 - 20) + (79 - 40));
        int[][] due = {{44, 50, 2, 26, 50, 1, 50}, {80, 80, 9, 39, -1, 1, 79}};
        for (int i = 0; i < 2; i++) {
            for (int what = 0; what < 7; what++) {
                Due.is("52 inn " + i + " " + what, x.innOf(i, what), due[i][what]);
            }
        }
        Due.is("52 age", x.status(2), 4);
        Due.is("52 gone by", x.status(6), 1);
        Due.is("52 the next", x.year(), 2 * (44 - 26 - 20) + (80 - 39));
        Due.is("52 misled: 10 less", x.innOf(0, 6), 50 + 34);
        Due.is("52 two gone by", x.status(6), 2);
        Due.is("52 a quarter, cut, and 1", x.innOf(0, 3), 26 + 6 + 1);
    }

    private static void yearsHaveAnEnd() {
        EverybodyHasTheBook x = Due.of("inn 5 1 78 said 9; goer 0 1 0; age 98");
        x.year();
        Due.is("52 letter 0 at least", x.innOf(0, 6), 0);
        Due.is("52 good 0 at least", x.innOf(0, 0), 0);
        Due.is("52 price 78 and 20", x.innOf(0, 3), 98);
        Due.is("52 age 99", x.status(2), 99);
        x.year();
        Due.is("52 price 99 at most", x.innOf(0, 3), 99);
        Due.is("52 age 99 at most", x.status(2), 99);
        EverybodyHasTheBook none = new EverybodyHasTheBook();
        Due.is("52 no inns", none.year(), 0);
        Due.is("52 it is gone by", none.status(6), 1);
        Due.is("52 and the age", none.status(2), 1);
    }

    private static void goes() {
        EverybodyHasTheBook x = Due.of("inn 50 2 20; goer 0 2 0");
        Due.is("53 three", x.goes(3), -14);
        Due.is("53 good", x.innOf(0, 0), 32);
        Due.is("53 price", x.innOf(0, 3), 42);
        Due.is("53 letters", x.innOf(0, 5), 3);
        Due.is("53 together", x.innOf(0, 6), 50 + 44 + 38);
        Due.is("53 gone by", x.status(6), 3);
        Due.is("53 age", x.status(2), 3);
        Due.is("53 n 0", x.goes(0), -1000002);
        Due.is("53 n 13", x.goes(13), -1000002);
        Due.is("53 n -1", x.goes(-1), -1000002);
        Due.is("53 refused ones don't go", x.status(6), 3);
        Due.is("53 refused", x.status(12), 3);
        x.goes(12);
        Due.is("53 twelve more", x.status(6), 15);
        Due.is("53 one is a year", Due.of("inn 50 2 20; goer 0 2 0").goes(1), 20);
    }

    /** The DRAWS by long arithmetic: {the INN, what the letter says}, and the SEED behind it. */
    private static long[] drawn(long seed, int inns, int[] good) {
        long first = (seed * 1103515245L + 12345L) & 0xffffffffL;
        long second = (first * 1103515245L + 12345L) & 0xffffffffL;
        int inn = (int) ((first >> 16) % inns);
        long v = good[inn] + (second >> 16) % 21 - 10;
        return new long[] {inn, Math.max(0, Math.min(100, v)), second};
    }

    private static void post() {
        // SEED 1: 1103527590, upper 16 bits 16838; then -1777246490 (2517720806), upper 16 bits 38417
        EverybodyHasTheBook x = Due.of("inn 50 1 1; inn 50 1 1; inn 50 1 1");
        Due.is("54 one", x.post(1), 1);
        Due.is("54 of inn 16838 % 3", x.innOf(2, 5), 1);
        Due.is("54 seed", x.status(8), (int) 2524885223L);
        Due.is("54 by the draw", x.innOf(2, 6), 50 + (int) ((2524885223L >> 16) % 21) - 10);
        int[] good = {95, 5, 50, 0, 100};
        for (int inns = 1; inns <= 5; inns++) {
            EverybodyHasTheBook y = new EverybodyHasTheBook();
            for (int i = 0; i < inns; i++) {
                y.inn(good[i], 1, 1);
            }
            y.seed(-12345 * inns);
            long seed = -12345L * inns & 0xffffffffL;
            int[] many = new int[inns];
            int[] together = new int[inns];
            for (int n = 1; n <= 40; n++) {
                long[] one = drawn(seed, inns, good);
                many[(int) one[0]]++;
                together[(int) one[0]] += (int) one[1];
                seed = one[2];
            }
            Due.is("54 forty", y.post(40), 40);
            for (int i = 0; i < inns; i++) {
                Due.is("54 letters of " + i + " by " + inns, y.innOf(i, 5), many[i]);
                Due.is("54 together of " + i + " by " + inns, y.innOf(i, 6), together[i]);
            }
            Due.is("54 seed behind", y.status(8), (int) seed);
        }
    }

    private static void postRefuses() {
        EverybodyHasTheBook x = new EverybodyHasTheBook();
        Due.is("54 no inns", x.post(1), -5);
        Due.is("54 bad ahead of stuck", x.post(0), -2);
        Due.is("54 no draws", x.status(8), 1);
        x.inn(50, 1, 1);
        Due.is("54 n 0", x.post(0), -2);
        Due.is("54 n 41", x.post(41), -2);
        Due.is("54 none came", x.innOf(0, 5), 0);
        Due.is("54 forty", x.post(40), 40);
        Due.is("54 eighty", x.post(40), 40);
        Due.is("54 as many as fit", x.post(40), 19);
        Due.is("54 it has 99", x.innOf(0, 5), 99);
        int seed = x.status(8);
        Due.is("54 none comes", x.post(1), 0);
        Due.is("54 both draws are made", x.status(8), (int) drawn(seed & 0xffffffffL, 1, new int[] {50})[2]);
        Due.is("54 refused", x.status(12), 3);
        Due.is("54 stuck told", x.status(15), 1);
    }

    private static void seed() {
        EverybodyHasTheBook x = new EverybodyHasTheBook();
        Due.is("55 1 at first", x.seed(Integer.MIN_VALUE), 1);
        Due.is("55 the one ahead", x.seed(-1), Integer.MIN_VALUE);
        Due.is("55 any", x.seed(Integer.MAX_VALUE), -1);
        Due.is("55 told", x.status(8), Integer.MAX_VALUE);
    }

    private static void image() {
        EverybodyHasTheBook x = Due.of("inn 50 2 20 said 7; goer 1 2 3; age 3; letter 0 9");
        x.seed(5);
        Due.feed(x, "ab");
        x.row(0, 0, 1);
        Due.is("56 image", x.image(), 1);
        x.say(0, 8);
        Due.is("56 anew", x.image(), 1);
        x.say(0, 9);
        x.back();
        Due.is("56 the last one counts", x.innOf(0, 4), 8);
    }

    private static void back() {
        EverybodyHasTheBook x = Due.of("inn 50 2 20 said 7; goer 1 2 3; age 3; letter 0 9");
        x.seed(5);
        x.year();
        Due.is("57 nothing was kept", x.back(), -5);
        Due.is("57 stuck told", x.status(15), 1);
        x.image();
        int[] inn = new int[7];
        for (int what = 0; what < 7; what++) {
            inn[what] = x.innOf(0, what);
        }
        x.goes(5);
        x.post(20);
        x.change(0, 0, 1);
        x.heads(0, 30);
        x.inn(1, 1, 1);
        x.goer(0, 1, 1);
        x.write(2);
        Due.feed(x, "abc");
        x.row(4, 2, 2);
        x.set(4, 1, 8);
        x.age(100);
        Due.is("57 back", x.back(), 1);
        for (int what = 0; what < 7; what++) {
            Due.is("57 inn " + what, x.innOf(0, what), inn[what]);
        }
        Due.is("57 heads", x.goerOf(0, 1), 2);
        int[] due = {1, 1, 4, 1, 2, 2, 1, 3, 5, 1, -1, -1, 1, 0, 0, 1, 0};
        for (int what = 0; what < due.length; what++) {
            Due.is("57 status " + what, x.status(what), due[what]);
        }
        Due.is("57 rows stay", x.element(4, 1), 8);
        x.inn(1, 1, 1);
        x.letter(1, 50);
        x.say(1, 50);
        x.year();
        Due.is("57 again", x.back(), 1);
        Due.is("57 as it was kept", x.status(6), 1);
        Due.is("57 a new one is new", x.inn(9, 9, 9), 1);
        int[] fresh = {9, 9, 9, 9, -1, 0, 0};
        for (int what = 0; what < 7; what++) {
            Due.is("57 a new inn " + what, x.innOf(1, what), fresh[what]);
        }
    }

    private static void backAndShelves() {
        EverybodyHasTheBook x = Due.of("inn 50 2 20; goer 1 2 3; goer 1 4 3");
        x.show(0, 0);
        x.image();
        x.goer(2, 7, 0);
        x.show(1, 2);
        x.show(2, 1);
        x.show(7, 2);
        x.show(4, 0);
        x.show(0, 2);
        x.row(3, 0, 1);
        x.heads(1, 9);
        x.heads(0, 9);
        Due.is("57 held ahead", x.status(9), 6);
        x.back();
        Due.is("57 of the same number", x.holds(4), 10);
        Due.is("57 nothing on the first", x.holds(0), -1);
        Due.is("57 shown since, but there was one", x.holds(2), 11);
        Due.is("57 nothing", x.holds(1), -1);
        Due.is("57 nothing on the last", x.holds(7), -1);
        Due.is("57 rows stay", x.holds(3), 0);
        Due.is("57 as they were", x.says(4, 0), 2);
        Due.is("57 as they were, the other", x.says(2, 0), 4);
        Due.is("57 says nothing", x.says(1, 0), -4);
        Due.is("57 held", x.status(9), 3);
    }

    private static void status() {
        EverybodyHasTheBook x = Due.of("inn 50 2 20; inn 50 20 20 said 0; goer 1 2 3; goer 1 4 3; goer 0 30 0; age 9");
        x.year();
        x.seed(-8);
        x.feed(1);
        x.show(1, 0);
        x.row(7, 0, 0);
        x.inn(101, 1, 1);
        x.says(7, 0);
        x.says(0, 0);
        x.says(2, 0);
        x.back();
        for (int i = 0; i < 5; i++) {
            x.inn(1, 1, 1);
        }
        x.joy(9);
        x.joy(9);
        int[] due = {6, 3, 10, 2, 26, 36, 1, 1, -8, 2, -1, -1, 3, 1, 2, 1, 1, -1};
        for (int what = 0; what < due.length; what++) {
            Due.is("58 status " + what, x.status(what), due[what]);
        }
        Due.is("58 what -1", x.status(-1), -1);
        Due.is("58 what far", x.status(Integer.MAX_VALUE), -1);
        Due.is("58 what far below", x.status(Integer.MIN_VALUE), -1);
        Due.is("58 none is no refusal", x.status(12), 3);
    }
}
