/** Promises 52 to 58 at their edges: what just FULL, just half full and just BASE make of a YEAR, wrapping SEEDS, empty images. */
public final class TruthEdgesTest {
    public static void main(String[] args) {
        fullGood();
        fullPrice();
        quietGood();
        quietPrice();
        halfFull();
        letterOfTheYear();
        letterOfTheMisled();
        letterBy99();
        bookGrowsOld();
        yearOfNobody();
        goes();
        goesAsYears();
        postRanges();
        postInBounds();
        postOfAFullOne();
        drawsWrap();
        drawsHaveNoSign();
        seed();
        image();
        imageKeepsAllBut();
        back();
        backAndShelves();
        statusRanges();
        statusCounts();
        Due.end();
    }

    /** One INN of a BASE, with heads that go to it. */
    private static EverybodyHasTheBook inn(int base, int good, int rooms, int price, int heads) {
        EverybodyHasTheBook x = new EverybodyHasTheBook();
        x.inn(base, rooms, price);
        x.change(0, 0, good);
        if (heads > 0) {
            x.goer(0, heads, 0);
        }
        return x;
    }

    private static void fullGood() {
        int[][] told = {{100, 94}, {8, 2}, {7, 1}, {6, 0}, {5, 0}, {1, 0}, {0, 0}};
        for (int[] one : told) {
            for (int heads : new int[] {2, 3, 30}) {
                EverybodyHasTheBook x = inn(100, one[0], 2, 10, heads);
                x.year();
                Due.is("52 FULL by " + heads + ", GOOD " + one[0], x.innOf(0, 0), one[1]);
                Due.is("52 BASE stays", x.innOf(0, 1), 100);
            }
        }
    }

    private static void fullPrice() {
        int[][] told = {{0, 1}, {1, 2}, {3, 4}, {4, 6}, {7, 9}, {8, 11}, {76, 96}, {77, 97}, {78, 98}, {79, 99}, {80, 99},
            {98, 99}, {99, 99}};
        for (int[] one : told) {
            EverybodyHasTheBook x = inn(50, 50, 2, one[0], 2);
            x.year();
            Due.is("52 FULL, PRICE " + one[0], x.innOf(0, 3), one[1]);
        }
    }

    private static void quietGood() {
        int[][] told = {{0, 3}, {45, 48}, {46, 49}, {47, 50}, {48, 50}, {49, 50}, {50, 50}, {51, 51}, {52, 52}, {100, 100}};
        for (int[] one : told) {
            for (int heads : new int[] {0, 1, 4}) {
                EverybodyHasTheBook x = inn(50, one[0], 9, 10, heads);
                x.year();
                Due.is("52 " + heads + " of 9, BASE 50, GOOD " + one[0], x.innOf(0, 0), one[1]);
                Due.is("52 BASE stays, too", x.innOf(0, 1), 50);
            }
        }
        EverybodyHasTheBook least = inn(0, 0, 9, 1, 0);
        least.year();
        Due.is("52 BASE 0", least.innOf(0, 0), 0);
        EverybodyHasTheBook most = inn(100, 98, 9, 1, 0);
        most.year();
        Due.is("52 BASE 100", most.innOf(0, 0), 100);
    }

    private static void quietPrice() {
        int[][] told = {{99, 98}, {2, 1}, {1, 0}, {0, 0}};
        for (int[] one : told) {
            EverybodyHasTheBook x = inn(50, 50, 9, one[0], 1);
            x.year();
            Due.is("52 quiet, PRICE " + one[0], x.innOf(0, 3), one[1]);
        }
    }

    /** GOOD 40 of BASE 50, PRICE 20: 43 and 19 where it is quiet, 34 and 26 where it is FULL, else as they were. */
    private static void halfFull() {
        for (int rooms = 1; rooms <= 20; rooms++) {
            for (int heads = 0; heads <= rooms; heads++) {
                EverybodyHasTheBook x = inn(50, 40, rooms, 20, heads);
                x.year();
                boolean quiet = 2 * heads < rooms;
                String what = "52 " + heads + " heads in " + rooms;
                Due.is(what + ": GOOD", x.innOf(0, 0), heads == rooms ? 34 : quiet ? 43 : 40);
                Due.is(what + ": PRICE", x.innOf(0, 3), heads == rooms ? 26 : quiet ? 19 : 20);
                Due.is(what + ": LETTERS", x.innOf(0, 5), heads > 0 ? 1 : 0);
                Due.is(what + ": they say", x.innOf(0, 6), heads > 0 ? 40 : 0);
            }
        }
    }

    private static int letterOf(int good, int said) {
        EverybodyHasTheBook x = inn(100, good, 1, 0, 1);
        x.say(0, said);
        x.year();
        return x.innOf(0, 6);
    }

    private static void letterOfTheYear() {
        Due.is("52 nothing is SAID", letterOf(50, -1), 50);
        Due.is("52 GOOD is what is SAID", letterOf(50, 50), 50);
        Due.is("52 GOOD is above by 1", letterOf(50, 49), 50);
        Due.is("52 SAID 0", letterOf(50, 0), 50);
        Due.is("52 GOOD 100", letterOf(100, 100), 100);
        Due.is("52 GOOD 0", letterOf(0, -1), 0);
        Due.is("52 GOOD 0, SAID 0", letterOf(0, 0), 0);
        Due.is("52 GOOD 6, ahead of the wear", letterOf(6, -1), 6);
    }

    private static void letterOfTheMisled() {
        Due.is("52 GOOD is below by 1", letterOf(50, 51), 40);
        Due.is("52 GOOD is below by far", letterOf(50, 100), 40);
        Due.is("52 99 of 100", letterOf(99, 100), 89);
        Due.is("52 just 1", letterOf(11, 12), 1);
        Due.is("52 just 0", letterOf(10, 11), 0);
        Due.is("52 0 at least", letterOf(9, 10), 0);
        Due.is("52 0 at least, GOOD 0", letterOf(0, 1), 0);
        EverybodyHasTheBook x = inn(100, 50, 1, 0, 1);
        x.say(0, 51);
        x.age(99);
        x.year();
        Due.is("52 SAID, whatever the AGE", x.innOf(0, 6), 40);
        EverybodyHasTheBook wear = inn(100, 50, 1, 0, 1);
        wear.say(0, 50);
        wear.year();
        wear.year();
        Due.is("52 below what is SAID since it was FULL", wear.innOf(0, 6), 50 + 34);
    }

    private static void letterBy99() {
        for (int many = 97; many <= 99; many++) {
            EverybodyHasTheBook x = inn(50, 50, 1, 0, 1);
            for (int i = 0; i < many; i++) {
                x.letter(0, 1);
            }
            x.year();
            Due.is("52 LETTERS behind " + many, x.innOf(0, 5), Math.min(99, many + 1));
            Due.is("52 they say, behind " + many, x.innOf(0, 6), many < 99 ? many + 50 : 99);
            Due.is("52 GOOD is 6 less all the same", x.innOf(0, 0), 44);
            Due.is("52 that is no refusal", x.status(16), 0);
        }
    }

    private static void bookGrowsOld() {
        for (int age : new int[] {0, 97, 98, 99}) {
            EverybodyHasTheBook x = new EverybodyHasTheBook();
            x.age(age);
            x.year();
            Due.is("52 AGE behind " + age, x.status(2), Math.min(99, age + 1));
            Due.is("52 YEARS gone by", x.status(6), 1);
        }
    }

    private static void yearOfNobody() {
        EverybodyHasTheBook none = new EverybodyHasTheBook();
        Due.is("52 nobody, no INNS", none.year(), 0);
        Due.is("52 it goes by", none.status(6), 1);
        EverybodyHasTheBook out = Due.of("goer 0 30 0");
        Due.is("52 no INNS", out.year(), -900);
        EverybodyHasTheBook empty = Due.of("inn 50 1 5");
        Due.is("52 nobody", empty.year(), 0);
        Due.is("52 no LETTER from nobody", empty.innOf(0, 5), 0);
        Due.is("52 PRICE is 1 less", empty.innOf(0, 3), 4);
        Due.is("52 nothing refused", none.status(12) + out.status(12) + empty.status(12), 0);
    }

    private static void goes() {
        Edge.of("53 n", Edge::steady, (x, v) -> x.goes(v)).least(1, 400).most(12, 4800).elseRefused(-1000002);
        Edge.of("53 no INNS", EverybodyHasTheBook::new, (x, v) -> x.goes(v)).least(1, 0).most(12, 0).elseRefused(-1000002);
        EverybodyHasTheBook x = Edge.steady();
        for (int i = 1; i <= 9; i++) {
            x.goes(12);
            Due.is("53 YEARS gone by", x.status(6), 12 * i);
            Due.is("53 AGE 99 at most", x.status(2), Math.min(99, 12 * i));
            Due.is("53 LETTERS 99 at most", x.innOf(0, 5), Math.min(99, 12 * i));
        }
    }

    private static void goesAsYears() {
        EverybodyHasTheBook x = Edge.busy();
        EverybodyHasTheBook y = Edge.busy();
        int joy = 0;
        for (int i = 0; i < 12; i++) {
            joy += y.year();
        }
        Due.is("40 as in truth", x.years(12, -1), joy);
        Due.is("53 twelve are twelve", x.goes(12), joy);
        Due.is("53 all is the same", java.util.Arrays.mismatch(Edge.told(x), Edge.told(y)), -1);
    }

    private static void postRanges() {
        Edge.of("54 n", Edge::busy, (x, v) -> x.post(v)).least(1, 1).most(40, 40).elseRefused(-2);
        Edge.refused("54 no INNS", EverybodyHasTheBook::new, x -> x.post(1), -5);
        Edge.refused("54 no INNS, 40", EverybodyHasTheBook::new, x -> x.post(40), -5);
        Edge.refused("54 BAD ahead of STUCK", EverybodyHasTheBook::new, x -> x.post(0), -2);
        Edge.refused("54 BAD above ahead of STUCK", EverybodyHasTheBook::new, x -> x.post(41), -2);
    }

    private static long behind(long seed) {
        return (seed * 1103515245L + 12345L) & 0xffffffffL;
    }

    private static void postInBounds() {
        boolean[] seen = new boolean[42];
        for (int good : new int[] {0, 1, 9, 10, 50, 90, 91, 99, 100}) {
            EverybodyHasTheBook x = new EverybodyHasTheBook();
            x.inn(good, 1, 1);
            x.seed(good);
            long seed = good;
            int together = 0;
            for (int i = 1; i <= 90; i++) {
                seed = behind(behind(seed));
                int draw = (int) ((seed >> 16) % 21);
                seen[draw] = true;
                together += Math.max(0, Math.min(100, good + draw - 10));
                Due.is("54 one", x.post(1), 1);
                Due.is("54 GOOD " + good + ", a DRAW of " + draw, x.innOf(0, 6), together);
            }
        }
        for (int draw = 0; draw < 42; draw++) {
            Due.holds("54 DRAWS below 21 were seen: " + draw, seen[draw] == draw < 21);
        }
    }

    private static void postOfAFullOne() {
        EverybodyHasTheBook x = new EverybodyHasTheBook();
        x.inn(50, 1, 1);
        Due.is("54 40", x.post(40), 40);
        Due.is("54 80", x.post(40), 40);
        Due.is("54 98", x.post(18), 18);
        Due.is("54 the 99th and no more", x.post(2), 1);
        Due.is("54 99", x.innOf(0, 5), 99);
        long seed = x.status(8);
        Due.is("54 none comes", x.post(1), 0);
        Due.is("54 both DRAWS are made", x.status(8), (int) behind(behind(seed)));
        Due.is("54 none of 40 comes", x.post(40), 0);
        Due.is("54 that is no refusal", x.status(16) + x.status(15) + x.status(12), 0);
        x.inn(50, 1, 1);
        x.seed(1);
        seed = 1;
        int ofTheOther = 0;
        for (int i = 0; i < 40; i++) {
            seed = behind(seed);
            ofTheOther += (int) ((seed >> 16) % 2);
            seed = behind(seed);
        }
        Due.is("54 those of the other one come", x.post(40), ofTheOther);
        Due.is("54 it has them", x.innOf(1, 5), ofTheOther);
        Due.is("54 the full one stays", x.innOf(0, 5), 99);
    }

    private static void drawsWrap() {
        int[] seeds = {0, 1, -1, Integer.MAX_VALUE, Integer.MIN_VALUE, Integer.MIN_VALUE + 1, 65535, 65536, 1103515245};
        for (int start : seeds) {
            EverybodyHasTheBook x = Edge.six();
            x.seed(start);
            long seed = start & 0xffffffffL;
            for (int i = 0; i < 40; i++) {
                long first = behind(seed);
                seed = behind(first);
                int inn = (int) ((first >> 16) % 6);
                int was = x.innOf(inn, 5);
                int said = x.innOf(inn, 6);
                Due.is("54 one", x.post(1), 1);
                Due.is("54 of that INN", x.innOf(inn, 5), was + 1);
                Due.is("54 it says", x.innOf(inn, 6) - said, x.innOf(inn, 0) + (int) ((seed >> 16) % 21) - 10);
                Due.is("54 SEED, wrapping, from " + start, x.status(8), (int) seed);
            }
        }
    }

    /** A first DRAW whose int is below 0: its upper 16 bits are 65535 to 32768 all the same. */
    private static void drawsHaveNoSign() {
        int found = 0;
        for (int start = 2; found < 20; start++) {
            long first = behind(start);
            if (first >> 31 == 1) {
                EverybodyHasTheBook x = Edge.six();
                x.seed(start);
                x.post(1);
                Due.is("54 upper bits without a sign, SEED " + start, x.innOf((int) ((first >> 16) % 6), 5), 1);
                found++;
            }
        }
    }

    private static void seed() {
        EverybodyHasTheBook x = new EverybodyHasTheBook();
        int[] seeds = {0, -1, Integer.MAX_VALUE, Integer.MIN_VALUE, 1};
        int ahead = 1;
        for (int v : seeds) {
            Due.is("55 the one ahead", x.seed(v), ahead);
            Due.is("55 becomes v", x.status(8), v);
            ahead = v;
        }
        Due.is("55 nothing refused", x.status(12), 0);
        x.inn(50, 1, 1);
        x.seed(0);
        x.post(1);
        Due.is("55 0 becomes 12345, and that another", x.status(8), (int) behind(12345));
    }

    private static void image() {
        EverybodyHasTheBook x = new EverybodyHasTheBook();
        Due.is("56 an empty one", x.image(), 1);
        x.inn(50, 1, 1);
        x.letter(0, 50);
        x.say(0, 50);
        x.goer(0, 1, 0);
        x.show(0, 0);
        Due.is("57 back to an empty one", x.back(), 1);
        Due.is("57 no INNS", x.status(0), 0);
        Due.is("57 no GOERS", x.status(1), 0);
        Due.is("57 NOTHING", x.holds(0), -1);
        Due.is("57 of number 0 there is nothing", x.innOf(0, 0), -2);
        Due.is("57 numbers, 0 on", x.inn(9, 9, 9), 0);
        int[] fresh = {9, 9, 9, 9, -1, 0, 0};
        for (int what = 0; what < 7; what++) {
            Due.is("57 as new, what " + what, x.innOf(0, what), fresh[what]);
        }
        EverybodyHasTheBook six = Edge.six();
        six.image();
        Due.is("57 back to six", six.back(), 1);
        Due.is("57 six INNS are full", six.inn(1, 1, 1), -6);
        Due.is("57 six GOERS are full", six.goer(1, 1, 1), -6);
        Due.is("57 the last one is there", six.innOf(5, 0), 55);
    }

    private static void imageKeepsAllBut() {
        EverybodyHasTheBook x = new EverybodyHasTheBook();
        x.inn(60, 3, 20);
        x.letter(0, 44);
        x.say(0, 33);
        x.goer(4, 7, 6);
        x.age(5);
        x.seed(-77);
        x.year();
        x.image();
        int[] inn = new int[7];
        for (int what = 0; what < 7; what++) {
            inn[what] = x.innOf(0, what);
        }
        x.change(0, 0, 1);
        x.change(0, 1, 1);
        x.say(0, -1);
        x.letter(0, 99);
        x.heads(0, 1);
        x.age(99);
        x.seed(8);
        x.goes(3);
        Due.feed(x, "xyz");
        x.row(0, 3, 2);
        x.set(0, 0, 5);
        x.age(-1);
        Due.is("57 back", x.back(), 1);
        for (int what = 0; what < 7; what++) {
            Due.is("56 INN, what " + what, x.innOf(0, what), inn[what]);
        }
        Due.is("56 HEADS", x.goerOf(0, 1), 7);
        Due.is("56 AGE", x.status(2), 6);
        Due.is("56 YEARS", x.status(6), 1);
        Due.is("56 SEED", x.status(8), -77);
        Due.is("56 not THE TAPE", x.status(7), 3);
        Due.is("56 not SHELVES", x.element(0, 0), 5);
        Due.is("56 not REFUSALS", x.status(12), 1);
    }

    private static void back() {
        Edge.refused("57 nothing was kept", EverybodyHasTheBook::new, x -> x.back(), -5);
        Edge.refused("57 nothing was kept of six", Edge::six, x -> x.back(), -5);
        EverybodyHasTheBook x = Edge.six();
        x.back();
        x.image();
        x.change(0, 0, 7);
        Due.is("57 kept since", x.back(), 1);
        Due.is("57 as it was", x.innOf(0, 0), 50);
        x.change(0, 0, 8);
        Due.is("57 a second time", x.back(), 1);
        Due.is("57 as it was, again", x.innOf(0, 0), 50);
        x.change(0, 0, 9);
        x.image();
        x.change(0, 0, 10);
        x.back();
        Due.is("57 the last image counts", x.innOf(0, 0), 9);
    }

    private static void backAndShelves() {
        EverybodyHasTheBook x = Due.of("inn 50 9 1;goer 0 2 0;goer 1 3 0;goer 5 4 0");
        x.image();
        x.goer(3, 5, 0);
        x.goer(4, 6, 0);
        for (int s = 0; s < 5; s++) {
            x.show(s, s);
        }
        x.row(6, 1, 3);
        x.set(6, 2, -9);
        x.heads(2, 30);
        x.back();
        int[] due = {10, 11, 12, -1, -1, -1, 1, -1};
        for (int s = 0; s < 8; s++) {
            Due.is("57 SHELF " + s, x.holds(s), due[s]);
        }
        Due.is("57 the last of those that were", x.says(2, 0), 4);
        Due.is("57 the first of those that weren't", x.says(3, 0), -4);
        Due.is("57 a ROW stays", x.element(6, 2), -9);
        Due.is("57 four hold something", x.status(9), 4);
        x.goer(3, 9, 0);
        Due.is("57 NOTHING stays, whoever comes", x.holds(3), -1);
    }

    private static void statusRanges() {
        EverybodyHasTheBook x = Edge.busy();
        int[] due = {-1, 3, 3, 4, 5, 14, 9, 0, 5, 99, 5, -1, -1, 0, 0, 0, 0, 0, -1};
        for (int what = -1; what < 18; what++) {
            Due.is("58 what " + what, x.status(what), due[what + 1]);
        }
        for (int what : new int[] {-1, -2, 10, 11, 17, Integer.MIN_VALUE, Integer.MAX_VALUE}) {
            Edge.thought("58 another what " + what, Edge::busy, y -> y.status(what), -1);
        }
        EverybodyHasTheBook six = new EverybodyHasTheBook();
        for (int k = 0; k < 6; k++) {
            six.inn(1, 20, 1);
            six.goer(0, 30, 1);
        }
        for (int s = 0; s < 8; s++) {
            six.row(s, 0, 0);
        }
        six.write(63);
        Due.is("58 most INNS", six.status(0), 6);
        Due.is("58 most GOERS", six.status(1), 6);
        Due.is("58 all in the BOOK", six.status(3), 63);
        Due.is("58 most ROOMS", six.status(4), 120);
        Due.is("58 most HEADS", six.status(5), 180);
        Due.is("58 all SHELVES", six.status(9), 8);
    }

    private static void statusCounts() {
        EverybodyHasTheBook x = Edge.six();
        x.row(0, 0, 1);
        x.show(1, 0);
        for (int i = 1; i <= 5; i++) {
            x.age(100);
            x.set(1, 0, 0);
            x.set(2, 0, 0);
            x.back();
            x.inn(1, 1, 1);
            for (int why = 12; why <= 16; why++) {
                Due.is("58 REFUSALS " + why, x.status(why), i);
            }
        }
        x.lean(0);
        Due.is("58 STUCK as -1000005", x.status(15), 6);
        x.lean(9);
        Due.is("58 BAD as -1000002", x.status(12), 6);
        x.valley();
        Due.is("58 a FAULT is BAD", x.status(12), 7);
        x.copy(0, 1, 0, 0, 0);
        Due.is("58 OTHER", x.status(13), 6);
        x.copy(0, 2, 0, 0, 0);
        Due.is("58 NOTHING", x.status(14), 6);
        x.feed(256);
        Due.is("58 BAD", x.status(12), 8);
        Due.is("58 FULL", x.status(16), 5);
    }
}
