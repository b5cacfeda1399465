/** Promises 22 to 39 at their edges: SCORES of 0 and below, INNS that are just full, nobody, no INNS, the ends of each range. */
public final class NightEdgesTest {
    public static void main(String[] args) {
        rangesOfScoreAndBeds();
        rangesOfGuestsAndJoy();
        rangesOfOpinions();
        scoreOfGoer();
        scoreOfBooked();
        scoreOfAgainst();
        scoreOfOwn();
        scoreOfLettered();
        scoreOfLate();
        justFull();
        theRestGoOn();
        noInns();
        noGoers();
        belowZeroIsAScore();
        lateOnes();
        joyAtItsEnds();
        takenAtItsEnds();
        crowdAtItsEnds();
        leanAtItsEnds();
        truest();
        oldest();
        enough();
        better();
        trust();
        share();
        nine();
        two();
        judgeSizes();
        judgePlaces();
        judgeOrder();
        Due.end();
    }

    /*
     * Of busy(): SCORES of GOER 0 62, 0, 42; of 1 50, 55, 46; of 2 as of 0. So 3, 0, 1; 0, 2, 1; 0, 0, 2
     * heads are in the INNS; 0 and 1 are FULL; JOY of a head 20, 14, 41.
     */

    private static void rangesOfScoreAndBeds() {
        Edge.Made busy = Edge::busy;
        Edge.of("22 GOER", busy, (x, v) -> x.score(v, 0)).least(0, 62).most(2, 62).elseRefused(-1000002);
        Edge.of("22 INN", busy, (x, v) -> x.score(0, v)).least(0, 62).most(2, 42).elseRefused(-1000002);
        Edge.of("22 GOER of six", Edge::six, (x, v) -> x.score(v, 0)).least(0, 100).most(5, 0).elseRefused(-1000002);
        Edge.of("22 INN of six", Edge::six, (x, v) -> x.score(0, v)).least(0, 100).most(5, 50).elseRefused(-1000002);
        Edge.of("23 GOER", busy, (x, v) -> x.sleeps(v, 2)).least(0, 1).most(2, 2).elseRefused(-2);
        Edge.of("23 INN", busy, (x, v) -> x.sleeps(0, v)).least(0, 3).most(2, 1).elseRefused(-2);
        Edge.of("23 GOER of six", Edge::six, (x, v) -> x.sleeps(v, 2)).least(0, 0).most(5, 2).elseRefused(-2);
        Edge.of("23 INN of six", Edge::six, (x, v) -> x.sleeps(0, v)).least(0, 2).most(5, 0).elseRefused(-2);
        Edge.thought("22 in thought", busy, x -> x.score(1, 1), 55);
        Edge.thought("23 in thought", busy, x -> x.sleeps(1, 1), 2);
    }

    private static void rangesOfGuestsAndJoy() {
        Edge.Made busy = Edge::busy;
        Edge.of("24 INN", busy, (x, v) -> x.guests(v)).least(0, 3).most(2, 4).elseRefused(-2);
        Edge.of("24 INN of six", Edge::six, (x, v) -> x.guests(v)).least(0, 5).most(5, 0).elseRefused(-2);
        Edge.of("25 GOER", busy, (x, v) -> x.out(v)).least(-1, 0).most(2, 0).elseRefused(-2);
        Edge.of("25 GOER of six", Edge::six, (x, v) -> x.out(v)).least(-1, 0).most(5, 0).elseRefused(-2);
        Edge.of("27 GOER", busy, (x, v) -> x.joy(v)).least(-1, 252).most(2, 82).elseRefused(-1000002);
        Edge.of("27 GOER of six", Edge::six, (x, v) -> x.joy(v)).least(-1, 5 * 30 + 5 * 21 + 2 * 32).most(5, 64)
            .elseRefused(-1000002);
        Edge.of("28 INN", busy, (x, v) -> x.taken(v)).least(0, 60).most(2, 36).elseRefused(-2);
        Edge.of("28 INN of six", Edge::six, (x, v) -> x.taken(v)).least(0, 0).most(5, 0).elseRefused(-2);
        Edge.thought("24 in thought", busy, x -> x.guests(1), 2);
        Edge.thought("25 in thought", busy, x -> x.out(1), 0);
        Edge.thought("26 in thought", busy, x -> x.full(), 3);
        Edge.thought("27 in thought", busy, x -> x.joy(1), 69);
        Edge.thought("28 in thought", busy, x -> x.taken(1), 82);
    }

    private static void rangesOfOpinions() {
        Edge.Made busy = Edge::busy;
        Edge.of("29 INN", busy, (x, v) -> x.crowd(v)).least(0, 6).most(2, 0).elseRefused(-2);
        Edge.of("30 INN", busy, (x, v) -> x.lean(v)).least(0, -20).most(2, 5).elseRefused(-1000002);
        Edge.of("33 INN", busy, (x, v) -> x.enough(v)).least(0, 8).most(2, 5).elseRefused(-2);
        Edge.of("34 GOER", busy, (x, v) -> x.better(v)).least(0, 0).most(2, 0).elseRefused(-2);
        Edge.of("35 INN", busy, (x, v) -> x.trust(v)).least(0, 99).most(2, -1).elseRefused(-2);
        Edge.of("36 GOER", busy, (x, v) -> x.share(v)).least(0, 25).most(2, 100).elseRefused(-2);
        Edge.of("37 INN", busy, (x, v) -> x.nine(v, 1, 100)).least(0, 10).most(2, 20).elseRefused(-1000002);
        Edge.of("37 n", busy, (x, v) -> x.nine(1, v, 50)).least(1, -25).most(40, -25).elseRefused(-1000002);
        Edge.of("37 v", busy, (x, v) -> x.nine(1, 1, v)).least(0, -75).most(100, 25).elseRefused(-1000002);
        Edge.of("38 INNS", busy, (x, v) -> x.two(v, 0)).least(0, 252).most(7, 252).elseRefused(-1000002);
        Edge.of("38 others", busy, (x, v) -> x.two(0, v)).least(0, 252).most(7, 252).elseRefused(-1000002);
        Edge.refused("30 no LETTERS", busy, x -> x.lean(1), -1000005);
        Edge.thought("29 in thought", busy, x -> x.crowd(0), 6);
        Edge.thought("31 in thought", busy, x -> x.truest(), 2);
        Edge.thought("32 in thought", busy, x -> x.oldest(), 0);
        Edge.thought("33 in thought", busy, x -> x.enough(0), 8);
        Edge.thought("34 in thought", busy, x -> x.better(0), 0);
        Edge.thought("35 in thought", busy, x -> x.trust(0), 99);
        Edge.thought("36 in thought", busy, x -> x.share(1), 33);
        Edge.thought("37 in thought", busy, x -> x.nine(0, 40, 100), 98 - 60);
        Edge.thought("38 in thought", busy, x -> x.two(7, 2), 252);
        Edge.thought("39 in thought", busy, x -> x.judge(4), 0);
    }

    private static EverybodyHasTheBook one(int kind, int a, int good, int price, int said, int age) {
        EverybodyHasTheBook x = new EverybodyHasTheBook();
        x.inn(good, 1, price);
        x.goer(kind, 1, a);
        x.say(0, said);
        x.age(age);
        return x;
    }

    private static void scoreOfGoer() {
        Due.is("22 GOER, PRICE 0", one(0, 0, 0, 0, -1, 0).score(0, 0), 100);
        Due.is("22 GOER, PRICE 99", one(0, 0, 0, 99, -1, 0).score(0, 0), 1);
        Due.is("22 GOER, whatever is SAID", one(0, 99, 0, 50, 100, 99).score(0, 0), 50);
    }

    private static void scoreOfBooked() {
        Due.is("22 BOOKED, not in the BOOK", one(1, 0, 100, 0, -1, 0).score(0, 0), 0);
        Due.is("22 BOOKED, SAID 0", one(1, 0, 100, 0, 0, 0).score(0, 0), 0);
        Due.is("22 BOOKED, SAID 100", one(1, 0, 0, 99, 100, 0).score(0, 0), 100);
        Due.is("22 BOOKED, AGE 49", one(1, 0, 0, 0, 100, 49).score(0, 0), 2);
        Due.is("22 BOOKED, AGE 49, SAID 99", one(1, 0, 0, 0, 99, 49).score(0, 0), 1);
        Due.is("22 BOOKED, just 0", one(1, 0, 0, 0, 100, 50).score(0, 0), 0);
        Due.is("22 BOOKED, 0 at least by 1", one(1, 0, 0, 0, 99, 50).score(0, 0), 0);
        Due.is("22 BOOKED, 0 at least by 2", one(1, 0, 0, 0, 100, 51).score(0, 0), 0);
        Due.is("22 BOOKED, AGE 99", one(1, 0, 0, 0, 0, 99).score(0, 0), 0);
        Due.is("22 BOOKED, not in it, AGE 99", one(1, 0, 0, 0, -1, 99).score(0, 0), 0);
        Due.is("22 BOOKED, whatever a", one(1, 99, 0, 0, 100, 0).score(0, 0), 100);
    }

    private static void scoreOfAgainst() {
        Due.is("22 AGAINST, not in the BOOK, PRICE 0", one(2, 99, 0, 0, -1, 99).score(0, 0), 100);
        Due.is("22 AGAINST, not in the BOOK, PRICE 99", one(2, 99, 0, 99, -1, 0).score(0, 0), 1);
        Due.is("22 AGAINST, SAID 0", one(2, 0, 0, 0, 0, 0).score(0, 0), 0);
        Due.is("22 AGAINST, just 0", one(2, 99, 0, 0, 99, 0).score(0, 0), 0);
        Due.is("22 AGAINST, below 0 by 1", one(2, 99, 0, 0, 98, 0).score(0, 0), -1);
        Due.is("22 AGAINST, greatest", one(2, 0, 0, 0, 100, 0).score(0, 0), 100);
        Due.is("22 AGAINST, least", one(2, 99, 0, 0, 0, 0).score(0, 0), -99);
        Due.is("22 AGAINST, 0 at least ahead of a", one(2, 99, 0, 0, 100, 99).score(0, 0), -99);
        Due.is("22 AGAINST, a 1", one(2, 1, 0, 0, 99, 50).score(0, 0), -1);
    }

    private static void scoreOfOwn() {
        Due.is("22 OWN, PRICE 0", one(3, 0, 100, 0, 0, 99).score(0, 0), 100);
        Due.is("22 OWN, PRICE 1, cut", one(3, 0, 100, 1, 0, 99).score(0, 0), 100);
        Due.is("22 OWN, PRICE 2", one(3, 0, 100, 2, -1, 0).score(0, 0), 99);
        Due.is("22 OWN, PRICE 99, cut", one(3, 0, 50, 99, -1, 0).score(0, 0), 1);
        Due.is("22 OWN, just 0", one(3, 0, 49, 98, -1, 0).score(0, 0), 0);
        Due.is("22 OWN, least", one(3, 0, 0, 99, 100, 0).score(0, 0), -49);
        Due.is("22 OWN, PRICE 98", one(3, 0, 0, 98, 100, 0).score(0, 0), -49);
        Due.is("22 OWN, PRICE 97", one(3, 0, 0, 97, 100, 0).score(0, 0), -48);
        EverybodyHasTheBook x = one(3, 0, 100, 0, -1, 0);
        x.change(0, 0, 7);
        Due.is("22 OWN, GOOD as it is, not BASE", x.score(0, 0), 7);
    }

    private static int lettered(int a, int many, int v, int said) {
        EverybodyHasTheBook x = one(4, a, 0, 0, said, 0);
        for (int i = 0; i < many; i++) {
            x.letter(0, v);
        }
        return x.score(0, 0);
    }

    private static void scoreOfLettered() {
        Due.is("22 LETTERED, a 0, no LETTERS", lettered(0, 0, 0, 77), 77);
        Due.is("22 LETTERED, a 0, one", lettered(0, 1, 30, 77), 30);
        Due.is("22 LETTERED, a 1, no LETTERS", lettered(1, 0, 0, 77), 77);
        Due.is("22 LETTERED, a 1, one", lettered(1, 1, 30, 77), 30);
        Due.is("22 LETTERED, a 2, one", lettered(2, 1, 30, 77), 77);
        Due.is("22 LETTERED, a 2, two", lettered(2, 2, 30, 77), 30);
        Due.is("22 LETTERED, a 99, 98", lettered(99, 98, 30, 77), 77);
        Due.is("22 LETTERED, a 99, 99", lettered(99, 99, 30, 77), 30);
        Due.is("22 LETTERED, a 0, 99", lettered(0, 99, 100, 77), 100);
        Due.is("22 LETTERED, they say 0", lettered(1, 1, 0, 77), 0);
        Due.is("22 LETTERED, too few, not in the BOOK", lettered(2, 1, 30, -1), 0);
        Due.is("22 LETTERED, enough, not in the BOOK", lettered(1, 1, 30, -1), 30);
        EverybodyHasTheBook x = one(4, 2, 0, 0, 77, 30);
        x.letter(0, 0);
        Due.is("22 LETTERED, too few, by AGE", x.score(0, 0), 17);
        x.letter(0, 1);
        Due.is("22 LETTERED, cut to 0", x.score(0, 0), 0);
        x.letter(0, 2);
        Due.is("22 LETTERED, just 1", x.score(0, 0), 1);
        x.age(99);
        Due.is("22 LETTERED, whatever AGE", x.score(0, 0), 1);
    }

    private static void scoreOfLate() {
        Due.is("22 LATE, not in the BOOK", one(5, 0, 100, 0, -1, 0).score(0, 0), 0);
        Due.is("22 LATE, SAID 100", one(5, 99, 0, 99, 100, 0).score(0, 0), 100);
        Due.is("22 LATE, AGE 49", one(5, 0, 0, 0, 100, 49).score(0, 0), 2);
        Due.is("22 LATE, just 0", one(5, 0, 0, 0, 100, 50).score(0, 0), 0);
        Due.is("22 LATE, 0 at least", one(5, 0, 0, 0, 100, 51).score(0, 0), 0);
    }

    /** One INN, GOOD 50, PRICE 20: a head's JOY is 30, or 10 where it is FULL. */
    private static void justFull() {
        int[] rooms = {1, 2, 19, 20};
        for (int r : rooms) {
            for (int heads = 1; heads <= 30; heads++) {
                EverybodyHasTheBook x = new EverybodyHasTheBook();
                x.inn(50, r, 20);
                x.goer(0, heads, 0);
                int in = Math.min(r, heads);
                boolean full = heads >= r;
                String what = heads + " heads, ROOMS " + r;
                Due.is("23 " + what, x.sleeps(0, 0), in);
                Due.is("24 " + what, x.guests(0), in);
                Due.is("25 " + what, x.out(0), heads - in);
                Due.is("25 of all, " + what, x.out(-1), heads - in);
                Due.is("26 " + what, x.full(), full ? 1 : 0);
                Due.is("27 " + what, x.joy(0), in * (full ? 10 : 30) - 30 * (heads - in));
                Due.is("27 of all, " + what, x.joy(-1), in * (full ? 10 : 30) - 30 * (heads - in));
                Due.is("28 " + what, x.taken(0), 20 * in);
            }
        }
    }

    private static void theRestGoOn() {
        EverybodyHasTheBook x = new EverybodyHasTheBook();
        for (int i = 0; i < 6; i++) {
            x.inn(50, 5, 10 * (5 - i));
        }
        x.goer(0, 30, 0);
        for (int i = 0; i < 6; i++) {
            Due.is("23 through all six", x.sleeps(0, i), 5);
        }
        Due.is("25 just none is OUT", x.out(0), 0);
        Due.is("26 all six are FULL", x.full(), 63);
        x.heads(0, 29);
        Due.is("23 the dearest has the rest", x.sleeps(0, 0), 4);
        Due.is("26 five are FULL", x.full(), 62);
        x.heads(0, 25);
        Due.is("23 none for the dearest", x.sleeps(0, 0), 0);
        x.heads(0, 26);
        Due.is("23 one for the dearest", x.sleeps(0, 0), 1);
        x.goer(0, 5, 0);
        Due.is("23 the next ones have what is left", x.sleeps(1, 0), 4);
        Due.is("25 one is OUT", x.out(1), 1);
        x.goer(0, 30, 0);
        Due.is("25 those behind are all OUT", x.out(2), 30);
        Due.is("27 their JOY", x.joy(2), -900);
        Due.is("23 they are in none", x.sleeps(2, 0) + x.sleeps(2, 5), 0);
    }

    private static void noInns() {
        EverybodyHasTheBook x = new EverybodyHasTheBook();
        for (int kind = 0; kind < 6; kind++) {
            x.goer(kind, 30, 99);
            Due.is("25 no INNS, KIND " + kind, x.out(kind), 30);
            Due.is("27 no INNS, KIND " + kind, x.joy(kind), -900);
            Due.is("34 no INNS, KIND " + kind, x.better(kind), 0);
        }
        Due.is("25 most are OUT", x.out(-1), 180);
        Due.is("27 the least JOY of all", x.joy(-1), -5400);
        Due.is("26 no INNS", x.full(), 0);
        Due.is("38 no INNS", x.two(0, 0), -5400);
    }

    private static void noGoers() {
        EverybodyHasTheBook x = Due.of("inn 50 1 20;inn 50 20 20");
        Due.is("24 no GOERS", x.guests(0) + x.guests(1), 0);
        Due.is("25 no GOERS", x.out(-1), 0);
        Due.is("26 no GOERS", x.full(), 0);
        Due.is("27 no GOERS", x.joy(-1), 0);
        Due.is("28 no GOERS", x.taken(0), 0);
        Due.is("29 no GOERS", x.crowd(0), 0);
        Due.is("33 no GOERS", x.enough(1), 1);
        Due.is("35 no GOERS", x.trust(0), -1);
        Due.is("38 no GOERS", x.two(3, 3), 0);
        Due.is("58 nothing refused", x.status(12), 0);
    }

    private static void belowZeroIsAScore() {
        EverybodyHasTheBook x = Due.of("inn 1 1 1 said 10;inn 1 1 1 said 20;inn 1 1 1 said 15;goer 2 2 99;goer 2 1 99");
        Due.is("23 the greatest of those below 0", x.sleeps(0, 1), 1);
        Due.is("23 then the next one", x.sleeps(0, 2), 1);
        Due.is("23 then the least", x.sleeps(1, 0), 1);
        EverybodyHasTheBook y = Due.of("inn 0 1 99;inn 0 1 90;goer 3 1 0");
        Due.is("23 OWN ones below 0", y.sleeps(0, 1), 1);
        EverybodyHasTheBook z = Due.of("inn 0 1 99;inn 0 1 98;goer 3 1 0");
        Due.is("23 of several below 0 the first", z.sleeps(0, 0), 1);
    }

    private static void lateOnes() {
        EverybodyHasTheBook x = Due.of("inn 50 3 0;goer 5 1 0;goer 5 1 0;goer 1 1 0;goer 5 1 0;goer 0 1 0");
        int[] due = {1, 0, 1, 0, 1};
        for (int g = 0; g < 5; g++) {
            Due.is("23 LATE ones behind all others " + g, x.sleeps(g, 0), due[g]);
        }
        EverybodyHasTheBook all = Due.of("inn 50 3 0;goer 5 2 0;goer 5 2 0;goer 5 2 0");
        Due.is("23 LATE ones alone, the first", all.sleeps(0, 0), 2);
        Due.is("23 LATE ones alone, the second", all.sleeps(1, 0), 1);
        Due.is("25 LATE ones alone, the third", all.out(2), 2);
        EverybodyHasTheBook six = Due.of("inn 50 9 0;goer 5 5 0;goer 0 1 0;goer 1 1 0;goer 2 1 0;goer 3 1 0;goer 4 4 0");
        Due.is("23 the first of six comes last", six.sleeps(0, 0), 1);
        Due.is("25 the first of six is OUT", six.out(0), 4);
        Due.is("23 the last of six is ahead of it", six.sleeps(5, 0), 4);
        Due.is("25 a single LATE one", Due.of("inn 50 1 0;goer 5 1 0").out(0), 0);
    }

    private static void joyAtItsEnds() {
        Due.is("27 greatest, not FULL", Due.of("inn 100 20 0;goer 0 19 0").joy(0), 1900);
        Due.is("27 FULL", Due.of("inn 100 20 0;goer 0 20 0").joy(0), 1600);
        Due.is("27 least, not FULL", Due.of("inn 0 20 99;goer 0 19 0").joy(0), -1881);
        Due.is("27 least, FULL", Due.of("inn 0 20 99;goer 0 20 0").joy(0), -2380);
        Due.is("27 just 0, not FULL", Due.of("inn 30 2 30;goer 0 1 0").joy(0), 0);
        Due.is("27 just 0, FULL", Due.of("inn 50 1 30;goer 0 1 0").joy(0), 0);
        EverybodyHasTheBook x = Due.of("inn 100 1 0;goer 0 1 0");
        x.change(0, 0, 40);
        Due.is("27 GOOD as it is, not BASE", x.joy(0), 20);
    }

    private static void takenAtItsEnds() {
        Due.is("28 most", Due.of("inn 0 20 99;goer 0 30 0").taken(0), 1980);
        Due.is("28 PRICE 0", Due.of("inn 0 20 0;goer 0 30 0").taken(0), 0);
        Due.is("28 one head", Due.of("inn 0 20 99;goer 0 1 0").taken(0), 99);
        Due.is("28 nobody", Due.of("inn 0 20 0;inn 0 20 99;goer 0 1 0").taken(1), 0);
    }

    private static void crowdAtItsEnds() {
        EverybodyHasTheBook x = new EverybodyHasTheBook();
        x.inn(50, 1, 1);
        int[] kinds = {1, 2, 4, 5, 1, 5};
        for (int g = 0; g < 6; g++) {
            x.goer(kinds[g], 30, 0);
        }
        Due.is("29 most, whether there are ROOMS or not", x.crowd(0), 180);
        EverybodyHasTheBook y = Due.of("inn 50 1 1;goer 0 30 0;goer 3 30 0");
        Due.is("29 GOERS and OWN ones are none", y.crowd(0), 0);
        EverybodyHasTheBook z = Due.of("inn 50 1 1;inn 50 1 1;inn 50 1 1 said 1;goer 1 1 0");
        Due.is("29 one", z.crowd(2), 1);
        z.say(2, 0);
        Due.is("29 of several the first", z.crowd(0), 1);
        Due.is("29 of several the first, not the last", z.crowd(2), 0);
    }

    private static int leanOf(int good, int... letters) {
        EverybodyHasTheBook x = new EverybodyHasTheBook();
        x.inn(good, 1, 1);
        for (int v : letters) {
            x.letter(0, v);
        }
        return x.lean(0);
    }

    private static void leanAtItsEnds() {
        Due.is("30 no LETTERS", leanOf(50), -1000005);
        Due.is("30 least", leanOf(100, 0), -100);
        Due.is("30 greatest", leanOf(0, 100), 100);
        Due.is("30 just 0", leanOf(50, 50), 0);
        Due.is("30 cut ahead of GOOD", leanOf(50, 50, 49), -1);
        Due.is("30 cut", leanOf(50, 50, 51, 51), 0);
        int[] many = new int[99];
        many[7] = 98;
        Due.is("30 98 by 99", leanOf(0, many), 0);
        many[98] = 1;
        Due.is("30 99 by 99", leanOf(0, many), 1);
        Edge.refused("30 BAD, where none has LETTERS", Edge::six, x -> x.lean(6), -1000002);
        Edge.refused("30 the last one has none", Edge::six, x -> x.lean(5), -1000005);
    }

    private static void truest() {
        Edge.refused("31 no INNS", EverybodyHasTheBook::new, x -> x.truest(), -5);
        Edge.answered("31 the only one, least", () -> Due.of("inn 0 1 99"), x -> x.truest(), 0);
        Due.is("31 the last is the greatest", Due.of("inn 0 1 99;inn 0 1 98").truest(), 1);
        Due.is("31 of several the first", Due.of("inn 0 1 99;inn 1 1 2;inn 2 1 3;inn 0 1 1").truest(), 1);
        Due.is("31 of six the last", Edge.six().truest(), 0);
        EverybodyHasTheBook x = Edge.six();
        x.change(5, 1, 4);
        Due.is("31 greater by 1", x.truest(), 5);
        x.change(5, 1, 5);
        Due.is("31 the same", x.truest(), 0);
    }

    private static void oldest() {
        Edge.thought("32 no INNS", EverybodyHasTheBook::new, x -> x.oldest(), -1);
        Edge.thought("32 none of six is in it", Edge::six, x -> x.oldest(), -1);
        Due.is("32 as far as 0", Due.of("inn 9 1 1;inn 5 1 1 said 5").oldest(), 1);
        Due.is("32 of several as far as 0", Due.of("inn 9 1 1 said 9;inn 5 1 1 said 5").oldest(), 0);
        Due.is("32 farther by 1", Due.of("inn 9 1 1 said 9;inn 5 1 1 said 6").oldest(), 1);
        Due.is("32 as far below", Due.of("inn 9 1 1 said 8;inn 5 1 1 said 6").oldest(), 0);
        Due.is("32 as far above", Due.of("inn 9 1 1 said 10;inn 5 1 1 said 4").oldest(), 0);
        Due.is("32 farthest", Due.of("inn 99 1 1 said 0;inn 0 1 1 said 100;inn 100 1 1 said 0").oldest(), 1);
    }

    private static int enoughFor(int heads, int rooms) {
        EverybodyHasTheBook x = new EverybodyHasTheBook();
        x.inn(50, rooms, 1);
        x.goer(0, heads, 0);
        return x.enough(0);
    }

    private static void enough() {
        for (int rooms : new int[] {1, 20}) {
            Due.is("33 one head", enoughFor(1, rooms), 2);
            Due.is("33 the greatest ROOMS", enoughFor(19, rooms), 20);
            Due.is("33 just too many", enoughFor(20, rooms), -1);
            Due.is("33 far too many", enoughFor(30, rooms), -1);
        }
        EverybodyHasTheBook x = Due.of("inn 50 1 0;inn 50 20 1;goer 0 1 0");
        Due.is("33 the least ROOMS, where nobody comes", x.enough(1), 1);
        Due.is("33 NONE is no refusal", Due.of("inn 50 1 1;goer 0 30 0").status(12), 0);
        Edge.thought("33 NONE", () -> Due.of("inn 50 1 1;goer 0 20 0"), y -> y.enough(0), -1);
    }

    private static void better() {
        Edge.thought("34 all the same: the first", () -> Due.of("inn 50 9 1;goer 5 3 9"), x -> x.better(0), 0);
        Edge.thought("34 the last KIND alone", () -> Due.of("inn 90 2 0;inn 90 9 0;goer 1 1 0;goer 1 2 0"),
            x -> x.better(0), 5);
        Edge.of("34 GOER of six", Edge::six, (x, v) -> x.better(v)).least(0, 0).most(5, 0).elseRefused(-2);
        Edge.refused("34 no GOERS", () -> Due.of("inn 50 9 1"), x -> x.better(0), -2);
        }

    private static int trustOf(int said) {
        EverybodyHasTheBook x = new EverybodyHasTheBook();
        x.inn(50, 1, 1);
        x.inn(50, 1, 1);
        x.goer(1, 1, 0);
        x.say(1, said);
        x.age(99);
        return x.trust(1);
    }

    private static void trust() {
        Due.is("35 SAID 100", trustOf(100), 49);
        Due.is("35 SAID 3", trustOf(3), 1);
        Due.is("35 SAID 2: AGE 0", trustOf(2), 0);
        Due.is("35 SAID 1: AGE 0", trustOf(1), 0);
        Due.is("35 SAID 0: NONE", trustOf(0), -1);
        Due.is("35 not in the BOOK: NONE", trustOf(-1), -1);
        Due.is("35 the only one: AGE 99", Due.of("inn 50 1 1;goer 1 1 0").trust(0), 99);
        for (int kind = 0; kind < 6; kind++) {
            EverybodyHasTheBook x = new EverybodyHasTheBook();
            x.inn(50, 1, 1);
            x.goer(kind, 1, 0);
            Due.is("35 some KIND " + kind, x.trust(0), kind == 0 || kind == 3 ? -1 : 99);
            Due.is("35 NONE is no refusal", x.status(12), 0);
        }
        // a later BOOK is trusted again where those AGAINST go by the price: 100 - 97 below 9 - 2 AGE
        EverybodyHasTheBook late = Due.of("inn 50 1 97;inn 50 1 1 said 9;goer 2 1 0");
        Due.is("35 not at first, but later on", late.trust(0), 99);
        Due.is("35 till then", late.trust(1), 2);
    }

    private static int shareOf(int rooms, int heads) {
        EverybodyHasTheBook x = new EverybodyHasTheBook();
        x.inn(50, rooms, 1);
        x.goer(0, heads, 0);
        return x.share(0);
    }

    private static void share() {
        Due.is("36 all", shareOf(20, 20), 100);
        Due.is("36 the only head", shareOf(1, 1), 100);
        Due.is("36 one of thirty", shareOf(1, 30), 3);
        Due.is("36 one of three", shareOf(1, 3), 33);
        Due.is("36 two of three", shareOf(2, 3), 66);
        Due.is("36 twenty of thirty", shareOf(20, 30), 66);
        Due.is("36 twenty of 21", shareOf(20, 21), 95);
        Due.is("36 none", Due.of("inn 50 9 10;inn 99 1 11;goer 0 9 0").share(0), 0);
        Edge.refused("36 no INNS", () -> Due.of("goer 0 9 0"), x -> x.share(0), -5);
        Edge.refused("36 BAD ahead of STUCK", () -> Due.of("goer 0 9 0"), x -> x.share(1), -2);
        Edge.refused("36 BAD below 0 ahead of STUCK", () -> Due.of("goer 0 9 0"), x -> x.share(-1), -2);
        Edge.refused("36 nobody, no INNS", EverybodyHasTheBook::new, x -> x.share(0), -2);
    }

    private static void nine() {
        EverybodyHasTheBook x = Due.of("inn 0 1 1;inn 100 1 1;letter 0 98");
        Due.is("37 there were none, greatest", x.nine(0, 40, 100), 4098 / 41);
        Due.is("37 there were none, least", x.nine(1, 40, 0), -100);
        Due.is("37 one more", x.nine(0, 1, 0), 49);
        Due.is("37 cut", x.nine(0, 1, 1), 49);
        Due.is("37 there were none, one more", x.nine(1, 1, 100), 0);
        for (int i = 1; i < 99; i++) {
            x.letter(0, 0);
        }
        Due.is("37 beyond 99", x.nine(0, 1, 2), 1);
        Due.is("37 beyond 99, cut", x.nine(0, 1, 1), 0);
        Due.is("37 forty beyond 99", x.nine(0, 40, 100), 4098 / 139);
        Due.is("37 LETTERS stay", x.innOf(0, 5), 99);
        Edge.refused("37 BAD INN, n, v", Edge::busy, y -> y.nine(3, 41, 101), -1000002);
    }

    private static void two() {
        int[] heads = {1, 2, 3, 29, 30};
        int[] halves = {0, 1, 1, 14, 15};
        for (int i = 0; i < heads.length; i++) {
            EverybodyHasTheBook x = Due.of("inn 0 20 0;inn 10 20 0");
            x.goer(1, heads[i], 0);
            Due.is("38 the rest of " + heads[i], x.two(2, 0), 10 * (heads[i] - halves[i]));
            Due.is("38 half of " + heads[i], x.two(0, 2), 10 * halves[i]);
        }
        for (int kind = 0; kind < 6; kind++) {
            EverybodyHasTheBook x = Due.of("inn 60 20 50;inn 50 20 39");
            x.goer(kind, 3, 99);
            boolean byBook = kind != 0 && kind != 3;
            int all = 3 * 11;
            // those AGAINST go by the price, away from what is in it
            int due = kind == 2 ? 2 * 10 + 11 : byBook ? 2 * 11 + 10 : kind == 0 ? all : 3 * 10;
            Due.is("38 KIND " + kind, x.two(2, 0), due);
        }
        Due.is("38 all six in both", Edge.six().two(63, 63), 4 * 50 + 5 * (55 - 50 - 20) + 3 * (54 - 40));
        Edge.refused("38 INNS of six", Edge::six, y -> y.two(64, 0), -1000002);
        Edge.refused("38 others of six", Edge::six, y -> y.two(0, 64), -1000002);
        Edge.refused("38 both", Edge::six, y -> y.two(-1, -1), -1000002);
    }

    /** Nobody is in any INN, so that a ROW of 0 is right. */
    private static EverybodyHasTheBook told(int inns, int goers, int size) {
        EverybodyHasTheBook x = new EverybodyHasTheBook();
        for (int i = 0; i < inns; i++) {
            x.inn(50, 5, 10 * i);
        }
        for (int g = 0; g < goers; g++) {
            x.goer(0, 5, 0);
        }
        x.row(7, 0, size);
        for (int g = 0; g < Math.min(goers, inns); g++) {
            x.set(7, g * inns + g, 5);
        }
        return x;
    }

    private static void judgeSizes() {
        Edge.thought("39 none of none", () -> told(0, 0, 0), x -> x.judge(7), -1);
        Edge.thought("39 no INNS", () -> told(0, 6, 0), x -> x.judge(7), -1);
        Edge.thought("39 no GOERS", () -> told(6, 0, 0), x -> x.judge(7), -1);
        Edge.thought("39 one", () -> told(1, 1, 1), x -> x.judge(7), -1);
        Edge.refused("39 one fewer than one", () -> told(1, 1, 0), x -> x.judge(7), -2);
        Edge.thought("39 36", () -> told(6, 6, 36), x -> x.judge(7), -1);
        Edge.thought("39 more than 36", () -> told(6, 6, 37), x -> x.judge(7), -1);
        Edge.thought("39 40", () -> told(6, 6, 40), x -> x.judge(7), -1);
        Edge.refused("39 one fewer than 36", () -> told(6, 6, 35), x -> x.judge(7), -2);
        Edge.thought("39 18", () -> told(6, 3, 18), x -> x.judge(7), -1);
        Edge.refused("39 17", () -> told(6, 3, 17), x -> x.judge(7), -2);
        Edge.thought("39 18 the other way", () -> told(3, 6, 18), x -> x.judge(7), -1);
        Edge.refused("39 17 the other way", () -> told(3, 6, 17), x -> x.judge(7), -2);
    }

    private static void judgePlaces() {
        for (int place = 0; place < 40; place++) {
            EverybodyHasTheBook x = told(6, 6, 40);
            x.set(7, place, 9);
            Due.is("39 otherwise at " + place, x.judge(7), place < 36 ? place : -1);
            x.set(7, 20, 1);
            Due.is("39 the first of two", x.judge(7), Math.min(place, 20));
        }
        EverybodyHasTheBook x = Due.of("inn 50 20 1;goer 0 1 0");
        for (int sort = 0; sort < 5; sort++) {
            x.row(0, sort, 1);
            Due.is("39 SORT " + sort + ", 0", x.judge(0), 0);
            x.set(0, 0, 1);
            Due.is("39 SORT " + sort + ", 1", x.judge(0), -1);
        }
        x.heads(0, 2);
        x.row(0, 4, 1);
        x.set(0, 0, 2);
        Due.is("39 so is 1, not 2", x.judge(0), 0);
        x.row(0, 0, 1);
        x.set(0, 0, 258);
        Due.is("39 the lowest bits are told", x.judge(0), -1);
        x.row(0, 3, 1);
        x.set(0, 0, 2 + (1L << 32));
        Due.is("39 a long is told whole", x.judge(0), 0);
        x.set(0, 0, -2);
        Due.is("39 below 0", x.judge(0), 0);
    }

    private static void judgeOrder() {
        Edge.of("39 SHELF", () -> {
            EverybodyHasTheBook x = new EverybodyHasTheBook();
            for (int s = 0; s < 8; s++) {
                x.row(s, s % 5, 1);
            }
            return x;
        }, (x, v) -> x.judge(v)).least(0, -1).most(7, -1).elseRefused(-2);
        Edge.refused("39 OTHER", Edge::busy, x -> x.judge(3), -3);
        Edge.refused("39 NOTHING", Edge::busy, x -> x.judge(5), -4);
        Edge.refused("39 fewer elements", Edge::busy, x -> x.judge(0), -2);
        Edge.refused("39 OTHER, no INNS", () -> {
            EverybodyHasTheBook x = Due.of("goer 0 1 0");
            x.show(0, 0);
            return x;
        }, x -> x.judge(0), -3);
        Edge.refused("39 NOTHING, no INNS", EverybodyHasTheBook::new, x -> x.judge(0), -4);
    }
}
