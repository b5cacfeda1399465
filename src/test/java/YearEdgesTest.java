/** Promises 40 to 51 at their edges: 1 and 12 YEARS, the 30th and none, all INNS and none, PRICES 0 and 99. */
public final class YearEdgesTest {
    public static void main(String[] args) {
        years();
        then();
        thenIsHeldInBounds();
        bookRanges();
        bookOfSeveral();
        written();
        many();
        roundRanges();
        roundNoneAheadOfInns();
        roundComesIntoTheBook();
        roundFirstOfSeveral();
        kept();
        keptOrder();
        called();
        spoiltRanges();
        spoiltYears();
        bearsRanges();
        bearsHeads();
        recovers();
        recoversYears();
        dearest();
        inThought();
        Due.end();
    }

    private static final int DEEP = -1000002;

    private static void years() {
        Edge.of("40 n", Edge::steady, (x, v) -> x.years(v, -1)).least(1, 400).most(12, 4800).elseRefused(DEEP);
        Edge.of("40 n, a GOER", Edge::steady, (x, v) -> x.years(v, 0)).least(1, 400).most(12, 4800).elseRefused(DEEP);
        Edge.of("40 GOER", Edge::busy, (x, v) -> x.years(1, v)).least(-1, 252).most(2, 82).elseRefused(DEEP);
        Edge.of("40 no GOERS", () -> Due.of("inn 1 1 1"), (x, v) -> x.years(12, v)).least(-1, 0).most(-1, 0).elseRefused(DEEP);
        Edge.refused("40 both", Edge::busy, x -> x.years(0, 3), DEEP);
        EverybodyHasTheBook none = Due.of("goer 0 30 0");
        Due.is("40 no INNS, 12 YEARS", none.years(12, -1), -10800);
        Due.is("40 no INNS, the GOER", none.years(12, 0), -10800);
        EverybodyHasTheBook most = Due.of("inn 100 20 0");
        for (int g = 0; g < 6; g++) {
            most.goer(0, 30, 0);
        }
        Due.is("40 all 180 heads, one YEAR", most.years(1, -1), 20 * 80 - 160 * 30);
        Due.is("40 the last GOERS", most.years(12, 5), -12 * 900);
    }

    private static void then() {
        Edge.of("41 n, GOOD", Edge::steady, (x, v) -> x.then(v, 0, 0)).least(1, 50).most(12, 50).elseRefused(-2);
        Edge.of("41 n, PRICE", Edge::steady, (x, v) -> x.then(v, 0, 1)).least(1, 10).most(12, 10).elseRefused(-2);
        Edge.of("41 n, TAKEN", Edge::steady, (x, v) -> x.then(v, 0, 2)).least(1, 100).most(12, 1200).elseRefused(-2);
        Edge.of("41 INN", Edge::busy, (x, v) -> x.then(1, v, 2)).least(0, 60).most(2, 36).elseRefused(-2);
        Edge.of("41 INN of six", Edge::six, (x, v) -> x.then(1, v, 0)).least(0, 44).most(5, 55).elseRefused(-2);
        Edge.of("41 what", Edge::busy, (x, v) -> x.then(1, 0, v)).least(0, 54).most(2, 60).elseRefused(-2);
        Edge.refused("41 all", Edge::busy, x -> x.then(13, 3, 3), -2);
        Edge.refused("41 no INNS", EverybodyHasTheBook::new, x -> x.then(1, 0, 0), -2);
    }

    private static void thenIsHeldInBounds() {
        EverybodyHasTheBook full = Due.of("inn 72 1 0;goer 0 1 0");
        Due.is("41 GOOD just 0 behind 12", full.then(12, 0, 0), 0);
        Due.is("41 GOOD behind 11", full.then(11, 0, 0), 6);
        full.change(0, 0, 71);
        Due.is("41 GOOD 0 at least", full.then(12, 0, 0), 0);
        full.change(0, 0, 100);
        Due.is("41 GOOD of 100 behind 12", full.then(12, 0, 0), 28);
        Due.is("41 PRICE 0 is 1 behind one", full.then(1, 0, 1), 1);
        full.change(0, 1, 99);
        Due.is("41 PRICE 99 at most", full.then(12, 0, 1), 99);
        Due.is("41 TAKEN most", full.then(12, 0, 2), 1188);
        EverybodyHasTheBook quiet = Due.of("inn 36 20 12");
        quiet.change(0, 0, 0);
        Due.is("41 GOOD just BASE behind 12", quiet.then(12, 0, 0), 36);
        Due.is("41 GOOD behind 11", quiet.then(11, 0, 0), 33);
        Due.is("41 PRICE just 0 behind 12", quiet.then(12, 0, 1), 0);
        Due.is("41 PRICE behind 11", quiet.then(11, 0, 1), 1);
        Due.is("41 TAKEN from nobody", quiet.then(12, 0, 2), 0);
        quiet.change(0, 0, 1);
        quiet.change(0, 1, 11);
        Due.is("41 no farther than BASE", quiet.then(12, 0, 0), 36);
        Due.is("41 PRICE 0 at least", quiet.then(12, 0, 1), 0);
        quiet.change(0, 0, 37);
        Due.is("41 one above BASE stays", quiet.then(12, 0, 0), 37);
    }

    /** Without the BOOK all are in INN 0; the BOOK of 1 and 2 is the best one. */
    private static EverybodyHasTheBook badFirst() {
        return Due.of("inn 10 5 50;inn 90 2 10;inn 90 2 10;goer 1 4 0;age 50");
    }

    private static void bookRanges() {
        Edge.of("42 n", Edge::steady, (x, v) -> x.book(v, 6)).least(1, 0).most(12, 0).elseRefused(-2);
        Edge.of("42 k", YearEdgesTest::badFirst, (x, v) -> x.book(1, v)).least(0, 0).most(6, 6).elseRefused(-2);
        Edge.of("42 k of no INNS", EverybodyHasTheBook::new, (x, v) -> x.book(12, v)).least(0, 0).most(6, 0).elseRefused(-2);
        Edge.refused("42 both", Edge::busy, x -> x.book(0, 7), -2);
    }

    private static void bookOfSeveral() {
        EverybodyHasTheBook x = badFirst();
        int[] due = {0, 2, 6, 6, 6, 6, 6};
        for (int k = 0; k < 7; k++) {
            Due.is("42 " + k + " at most", x.book(1, k), due[k]);
        }
        Due.is("42 all the same: the least as bits", Due.of("inn 50 9 1;inn 50 9 1;goer 1 1 0").book(1, 6), 0);
        Due.is("42 nobody: the least as bits", Due.of("inn 50 9 1;inn 50 9 1").book(12, 6), 0);
        EverybodyHasTheBook first = Due.of("inn 10 9 0;inn 50 9 0;inn 10 9 0 said 99;goer 2 1 60");
        Due.is("42 the first INN alone is a set", first.written(1, 1), 50);
        Due.is("42 none: by the PRICE to the first", first.written(1, 0), 10);
        Due.is("42 the first one out of the way", first.book(1, 6), 1);
        Due.is("44 one", first.many(1), 1);
        // the one AGAINST goes to INN 2 by {0, 1} and by {2} alike
        EverybodyHasTheBook fewest = Due.of("inn 50 1 30;inn 40 2 40;inn 90 1 40;goer 2 1 0");
        Due.is("42 of several the least as bits, not the fewest", fewest.book(1, 6), 3);
        Due.is("44 the fewest", fewest.many(1), 1);
        EverybodyHasTheBook all = allSix();
        Due.is("42 all six", all.book(1, 6), 63);
        Due.is("42 five at most do nothing", all.book(1, 5), 0);
    }

    /**
     * The one AGAINST goes to the best INN (0: JOY 40, else 30), if all are in the BOOK, and only then: it
     * has 85 in it and 40 not in it, the others 45 and 90.
     */
    private static EverybodyHasTheBook allSix() {
        return Due.of("inn 100 9 60;inn 60 1 10;inn 60 1 10;inn 60 1 10;inn 60 1 10;inn 60 1 10;goer 2 1 15");
    }

    private static void written() {
        Edge.of("43 n", Edge::steady, (x, v) -> x.written(v, 0)).least(1, 400).most(12, 4800).elseRefused(DEEP);
        Edge.of("43 INNS", Edge::busy, (x, v) -> x.written(1, v)).least(0, 252).most(7, 252).elseRefused(DEEP);
        Edge.of("43 INNS of six", YearEdgesTest::allSix, (x, v) -> x.written(1, v)).least(0, 30).most(63, 40).elseRefused(DEEP);
        Edge.of("43 no INNS", EverybodyHasTheBook::new, (x, v) -> x.written(1, v)).least(0, 0).most(0, 0).elseRefused(DEEP);
        Edge.refused("43 both", Edge::busy, x -> x.written(13, -1), DEEP);
        EverybodyHasTheBook x = badFirst();
        Due.is("43 AGE 0, as write has it", x.written(1, 6), 240);
        x.change(1, 0, 0);
        Due.is("43 SAID is GOOD, even 0", x.written(1, 2), -160);
    }

    private static void many() {
        Edge.of("44 n", Edge::steady, (x, v) -> x.many(v)).least(1, 0).most(12, 0).elseRefused(-2);
        Due.is("44 all six", allSix().many(1), 6);
        Due.is("44 two of three", badFirst().many(1), 2);
        Due.is("44 no INNS", Due.of("goer 1 30 0").many(12), 0);
        Due.is("44 no GOERS", Due.of("inn 1 1 1").many(12), 0);
    }

    private static void roundRanges() {
        Edge.of("45 n", Edge::steady, (x, v) -> x.round(v, -1)).least(1, 400).most(3, 1200).elseRefused(DEEP);
        Edge.of("45 n, the first", Edge::steady, (x, v) -> x.round(v, 0)).least(1, -1).most(3, -1).elseRefused(DEEP);
        Edge.of("45 i of one", Edge::steady, (x, v) -> x.round(1, v)).least(-1, 400).most(0, -1).elseRefused(DEEP);
        Edge.of("45 i of two", Edge::steady, (x, v) -> x.round(2, v)).least(-1, 800).most(1, -1).elseRefused(DEEP);
        Edge.of("45 i of three", Edge::steady, (x, v) -> x.round(3, v)).least(-1, 1200).most(2, -1).elseRefused(DEEP);
        Edge.refused("45 n 12, a span elsewhere", Edge::steady, x -> x.round(12, -1), DEEP);
        Edge.refused("45 both", Edge::steady, x -> x.round(4, 4), DEEP);
        EverybodyHasTheBook none = Due.of("goer 1 30 0");
        Due.is("45 no INNS", none.round(3, -1), -2700);
        for (int i = 0; i < 3; i++) {
            Due.is("45 no INNS, year " + i, none.round(3, i), -1);
        }
    }

    private static void roundNoneAheadOfInns() {
        EverybodyHasTheBook six = new EverybodyHasTheBook();
        for (int i = 0; i < 6; i++) {
            six.inn(10 + i, 20, 0);
        }
        six.goer(1, 1, 0);
        Due.is("45 the last INN is the best", six.round(1, 0), 5);
        Due.is("45 its JOY", six.round(1, -1), 15);
        Due.is("45 once is enough: first", six.round(3, 0), 5);
        Due.is("45 once is enough: then none", six.round(3, 1), -1);
        Due.is("45 once is enough: none again", six.round(3, 2), -1);
        Due.is("45 JOY of three", six.round(3, -1), 45);
        six.age(99);
        Due.is("45 AGE 99: none", six.round(3, 0), -1);
        Due.is("45 AGE 99: JOY", six.round(3, -1), 30);
        six.age(0);
        six.write(63);
        Due.is("45 all are in it: none", six.round(2, 0), -1);
        six.change(5, 0, 20);
        Due.is("45 it is better than what is SAID, and is gone to anyway", six.round(2, 0), -1);
        six.say(5, 0);
        Due.is("45 too little is SAID", six.round(2, 0), 5);
    }

    private static void roundComesIntoTheBook() {
        EverybodyHasTheBook x = Due.of("inn 0 9 0;inn 1 9 0;goer 1 1 0");
        Due.is("45 GOOD 1 is SAID", x.round(1, 0), 1);
        x.change(1, 0, 0);
        x.change(0, 1, 5);
        Due.is("45 GOOD 0 is SAID, and is no better", x.round(1, 0), -1);
        EverybodyHasTheBook against = Due.of("inn 0 9 0;inn 1 9 0;goer 2 1 0");
        Due.is("45 in the BOOK with 0 it is shunned", against.round(1, 0), 0);
        Due.is("45 its JOY", against.round(1, -1), 1);
    }

    /** INN 0 is FULL with one: JOY 30, then 23; INN 1 is as good as that at first, and stays so. */
    private static void roundFirstOfSeveral() {
        EverybodyHasTheBook x = Due.of("inn 50 1 0;inn 30 9 0;goer 1 1 0");
        Due.is("45 none, 1; 1, none; 1, 1 are all the best", x.round(2, -1), 60);
        Due.is("45 none ahead of INNS in the first YEAR", x.round(2, 0), -1);
        Due.is("45 then it has to be 1", x.round(2, 1), 1);
        Due.is("45 all of one YEAR are the same", x.round(1, 0), -1);
        EverybodyHasTheBook same = Due.of("inn 0 9 50;inn 50 9 0;inn 50 9 0;goer 1 1 0");
        Due.is("45 of INNS the first", same.round(1, 0), 1);
        Due.is("45 of INNS the first, then none", same.round(2, 1), -1);
    }

    private static EverybodyHasTheBook writtenBusy() {
        EverybodyHasTheBook x = Edge.busy();
        x.write(7);
        return x;
    }

    private static EverybodyHasTheBook writtenSteady() {
        EverybodyHasTheBook x = Edge.steady();
        x.write(1);
        return x;
    }

    private static void kept() {
        Edge.of("46 n", YearEdgesTest::writtenSteady, (x, v) -> x.kept(v, 0)).least(1, 0).most(12, 0).elseRefused(DEEP);
        // as it is OWN ones are in 0, 2, 2; without 0 they find three beds in it, and it is FULL
        Edge.of("46 INN", YearEdgesTest::writtenBusy, (x, v) -> x.kept(1, v)).least(0, 60 - 102).most(2, 0).elseRefused(DEEP);
        Due.is("46 SAID 0 is in the BOOK", saidZero().kept(12, 0), 0);
        Due.is("46 no OWN ones", writtenSteady().kept(12, 0), 0);
        // a BOOKED one leaves the company of OWN ones: 80 each where it is quiet, 60 where it is FULL
        for (int own = 0; own < 6; own++) {
            EverybodyHasTheBook x = Due.of("inn 50 9 0;inn 80 6 0 said 1");
            for (int g = 0; g < 6; g++) {
                x.goer(own == g ? 3 : 1, 1, 0);
            }
            Due.is("46 GOER " + own + " of six is OWN", x.kept(1, 1), 20);
        }
    }

    private static EverybodyHasTheBook saidZero() {
        EverybodyHasTheBook x = Edge.steady();
        x.say(0, 0);
        return x;
    }

    private static void keptOrder() {
        Edge.refused("46 it isn't in the BOOK", Edge::busy, x -> x.kept(1, 1), -1000005);
        Edge.refused("46 it isn't in the BOOK, 12 YEARS", Edge::busy, x -> x.kept(12, 1), -1000005);
        Edge.refused("46 BAD n ahead of STUCK", Edge::busy, x -> x.kept(0, 1), DEEP);
        Edge.refused("46 BAD n above ahead of STUCK", Edge::busy, x -> x.kept(13, 1), DEEP);
        Edge.refused("46 BAD INN, nothing in the BOOK", Edge::six, x -> x.kept(1, 6), DEEP);
        Edge.refused("46 nothing in the BOOK", Edge::six, x -> x.kept(1, 5), -1000005);
    }

    private static void called() {
        Edge.of("47 n", Edge::steady, (x, v) -> x.called(v, 0, 9)).least(1, 0).most(12, 0).elseRefused(DEEP);
        Edge.of("47 INN", Edge::busy, (x, v) -> x.called(1, v, 50)).least(0, 0).most(2, 0).elseRefused(DEEP);
        // SAID 0 sends BOOKED and LATE ones to INN 2, and 0 has but one of the OWN ones
        Edge.of("47 v", Edge::busy, (x, v) -> x.called(1, 0, v)).least(0, 314 - 252).most(100, 0).elseRefused(DEEP);
        Edge.refused("47 NONE can't be SAID here", Edge::steady, x -> x.called(1, 0, -1), DEEP);
        Edge.refused("47 all", Edge::busy, x -> x.called(0, 3, 101), DEEP);
    }

    private static void spoiltRanges() {
        Edge.of("48 INN", Edge::busy, (x, v) -> x.spoilt(v, 0)).least(0, -1).most(2, -1).elseRefused(-2);
        Edge.of("48 INN of six", Edge::six, (x, v) -> x.spoilt(v, 100)).least(0, 1).most(5, 1).elseRefused(-2);
        Edge.of("48 g", Edge::steady, (x, v) -> x.spoilt(0, v)).least(0, -1).most(100, 1).elseRefused(-2);
        Due.is("48 GOOD is g", Edge.steady().spoilt(0, 50), -1);
        Due.is("48 GOOD is below g by 1", Edge.steady().spoilt(0, 51), 1);
        Edge.refused("48 both", Edge::busy, x -> x.spoilt(3, 101), -2);
        Edge.thought("48 NONE isn't refused", Edge::steady, x -> x.spoilt(0, 0), -1);
    }

    private static void spoiltYears() {
        EverybodyHasTheBook full = Due.of("inn 100 1 0;goer 0 1 0");
        for (int year = 1; year <= 16; year++) {
            Due.is("48 below by 1 behind " + year, full.spoilt(0, 100 - 6 * year + 1), year);
            Due.is("48 just g behind " + year, full.spoilt(0, 100 - 6 * year), year + 1);
        }
        Due.is("48 1, behind 17", full.spoilt(0, 1), 17);
        Due.is("48 never below 0", full.spoilt(0, 0), -1);
        // those AGAINST come when 3 times the YEARS gone by reach the PRICE
        EverybodyHasTheBook late = Due.of("inn 50 1 87;inn 100 20 0 said 100;goer 2 1 0");
        Due.is("48 the 30th", late.spoilt(0, 50), 30);
        late.change(0, 1, 84);
        Due.is("48 the 29th", late.spoilt(0, 50), 29);
        late.change(0, 1, 88);
        Due.is("48 the 31st is too late", late.spoilt(0, 50), -1);
        // a quiet one that is below g mends ahead of the first look
        EverybodyHasTheBook mends = Due.of("inn 50 9 1");
        mends.change(0, 0, 47);
        Due.is("48 below g now, not behind a YEAR", mends.spoilt(0, 50), -1);
        mends.change(0, 0, 46);
        Due.is("48 below g behind the first", mends.spoilt(0, 50), 1);
    }

    private static void bearsRanges() {
        Edge.of("49 GOER", Edge::busy, (x, v) -> x.bears(v, 0, 1, 0)).least(0, 30).most(2, 30).elseRefused(-2);
        Edge.of("49 INN", Edge::busy, (x, v) -> x.bears(0, v, 1, 0)).least(0, 30).most(2, 30).elseRefused(-2);
        Edge.of("49 n", Edge::busy, (x, v) -> x.bears(0, 0, v, 0)).least(1, 30).most(12, 30).elseRefused(-2);
        Edge.of("49 g", Edge::busy, (x, v) -> x.bears(0, 0, 1, v)).least(0, 30).most(100, -1).elseRefused(-2);
        Edge.refused("49 all", Edge::busy, x -> x.bears(3, 3, 13, 101), -2);
        Edge.thought("49 NONE isn't refused", Edge::busy, x -> x.bears(0, 0, 12, 100), -1);
    }

    private static void bearsHeads() {
        for (int rooms = 1; rooms <= 20; rooms++) {
            EverybodyHasTheBook x = new EverybodyHasTheBook();
            x.inn(50, rooms, 1);
            x.goer(0, 30, 0);
            Due.is("49 one fewer than " + rooms, x.bears(0, 0, 1, 50), rooms == 1 ? -1 : rooms - 1);
            Due.is("49 FULL once, " + rooms, x.bears(0, 0, 1, 44), 30);
            Due.is("49 FULL once is too much, " + rooms, x.bears(0, 0, 1, 45), rooms == 1 ? -1 : rooms - 1);
            Due.is("49 more than it is, " + rooms, x.bears(0, 0, 1, 51), -1);
        }
        EverybodyHasTheBook two = Due.of("inn 50 2 1;goer 0 30 0");
        Due.is("49 the least HEADS", two.bears(0, 0, 12, 50), 1);
        Due.is("49 12 YEARS of FULL", two.bears(0, 0, 8, 2), 30);
        Due.is("49 one YEAR more", two.bears(0, 0, 9, 2), 1);
        Due.is("49 HEADS stay", two.goerOf(0, 1), 30);
        EverybodyHasTheBook low = Due.of("inn 50 5 1;goer 0 30 0");
        low.change(0, 0, 45);
        Due.is("49 behind each YEAR, the first too", low.bears(0, 0, 12, 48), 2);
        Due.is("49 it would be there behind the second", low.bears(0, 0, 12, 49), -1);
    }

    private static void recovers() {
        Edge.Made quiet = () -> Due.of("inn 50 1 1;inn 60 1 1;inn 70 1 1");
        Edge.of("50 INN", quiet, (x, v) -> x.recovers(v)).least(0, 1).most(2, 1).elseRefused(-2);
        Edge.of("50 INN of six", Edge::six, (x, v) -> x.recovers(v)).least(0, -1).most(5, 1).elseRefused(-2);
        Edge.refused("50 no INNS", EverybodyHasTheBook::new, x -> x.recovers(0), -2);
        Edge.thought("50 NONE isn't refused", () -> Due.of("inn 50 1 1;goer 0 1 0"), x -> x.recovers(0), -1);
    }

    private static void recoversYears() {
        EverybodyHasTheBook x = Due.of("inn 100 1 1");
        for (int below = 0; below <= 100; below++) {
            x.change(0, 0, 100 - below);
            int years = Math.max(1, (below + 2) / 3);
            Due.is("50 " + below + " below BASE", x.recovers(0), years <= 30 ? years : -1);
        }
        EverybodyHasTheBook above = Due.of("inn 50 1 1;goer 0 1 0");
        above.change(0, 0, 56);
        Due.is("50 just BASE behind a FULL YEAR", above.recovers(0), 1);
        above.change(0, 0, 55);
        Due.is("50 just below, and FULL for ever", above.recovers(0), -1);
        EverybodyHasTheBook zero = Due.of("inn 0 1 1;goer 0 1 0");
        Due.is("50 BASE 0", zero.recovers(0), 1);
        EverybodyHasTheBook against = Due.of("inn 50 1 0 said 50;inn 50 9 40;goer 2 1 0");
        against.change(0, 0, 49);
        // FULL for 12 YEARS, till it is at 37 and the other one at 28; then from GOOD 0 to 50 in 17
        Due.is("50 those AGAINST come, if it isn't in the BOOK", against.recovers(0), 29);
        Due.is("50 they don't, as it is", against.then(1, 0, 0), 50);
        EverybodyHasTheBook book = Due.of("inn 50 1 1 said 100;inn 50 20 1 said 50;goer 1 1 0;inn 50 1 1");
        book.change(0, 0, 49);
        Due.is("50 nothing in the BOOK: the first choice is the first", book.recovers(0), -1);
        book.change(1, 0, 49);
        Due.is("50 the other one is quiet", book.recovers(1), 1);
        Due.is("50 the BOOK stays", book.status(3), 3);
    }

    private static void dearest() {
        Edge.of("51 n", Edge::steady, (x, v) -> x.dearest(v, 0)).least(1, 99).most(12, 99).elseRefused(-2);
        Edge.Made nobody = () -> Due.of("inn 50 1 7;inn 60 1 7;inn 70 1 7");
        Edge.of("51 INN", nobody, (x, v) -> x.dearest(12, v)).least(0, 0).most(2, 0).elseRefused(-2);
        Edge.refused("51 both", Edge::busy, x -> x.dearest(13, 3), -2);
        Edge.refused("51 no INNS", EverybodyHasTheBook::new, x -> x.dearest(1, 0), -2);
        EverybodyHasTheBook x = Due.of("inn 50 20 7;inn 50 20 40;goer 0 1 0");
        Due.is("51 the same PRICE, the first one", x.dearest(1, 0), 40);
        Due.is("51 the second has to be cheaper", x.dearest(1, 1), 6);
        x.change(1, 1, 0);
        Due.is("51 the other one is free: PRICE 0", x.dearest(1, 0), 0);
        x.change(1, 1, 99);
        Due.is("51 the other one is the dearest: 99", x.dearest(1, 0), 99);
        x.change(1, 1, 1);
        Due.is("51 PRICE 1", x.dearest(1, 0), 1);
        Due.is("51 it stays", x.innOf(0, 3), 7);
        // FULL at 78 it is at 98 in the second YEAR, as the other one is then: 78 and 98
        EverybodyHasTheBook full = Due.of("inn 50 1 7;inn 50 20 99;goer 0 1 0");
        Due.is("51 two YEARS", full.dearest(2, 0), 78);
    }

    private static void inThought() {
        Edge.Made steady = Edge::steady;
        Edge.thought("40 in thought", steady, x -> x.years(12, 0), 4800);
        Edge.thought("41 in thought", steady, x -> x.then(12, 0, 2), 1200);
        Edge.thought("42 in thought", YearEdgesTest::badFirst, x -> x.book(1, 6), 6);
        Edge.thought("43 in thought", YearEdgesTest::badFirst, x -> x.written(1, 6), 240);
        Edge.thought("44 in thought", YearEdgesTest::badFirst, x -> x.many(1), 2);
        Edge.thought("45 in thought", Edge::busy, x -> x.round(1, -1), 252);
        Edge.thought("46 in thought", YearEdgesTest::writtenBusy, x -> x.kept(1, 0), -42);
        Edge.thought("47 in thought", Edge::busy, x -> x.called(1, 0, 0), 62);
        Edge.thought("48 in thought", Edge::busy, x -> x.spoilt(0, 60), 1);
        Edge.thought("49 in thought", Edge::busy, x -> x.bears(0, 0, 12, 0), 30);
        Edge.thought("50 in thought", () -> Due.of("inn 50 1 1;inn 50 1 1"), x -> x.recovers(1), 1);
        Edge.thought("51 in thought", steady, x -> x.dearest(12, 0), 99);
    }
}
