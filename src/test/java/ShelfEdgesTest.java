/** Promises 1 to 8 at their edges: empty, full, the ends of each range, lowest bits, the order of refusals. */
public final class ShelfEdgesTest {
    public static void main(String[] args) {
        newObjectIsEmpty();
        callsOnAnEmptyValley();
        objectsShareNothing();
        rowRanges();
        rowAtFirst();
        setRanges();
        setWraps();
        setOrder();
        copyRanges();
        copyOfNone();
        copyOfSizes();
        copyOverlaps();
        copyKeepsEachSort();
        copyOrder();
        elementRefusesNothing();
        holdsRefusesNothing();
        showRanges();
        saysRanges();
        saysWhatTheyAreOf();
        saysOrder();
        saysFirstOfSeveral();
        Due.end();
    }

    private static void newObjectIsEmpty() {
        EverybodyHasTheBook x = new EverybodyHasTheBook();
        Due.is("1 no INNS", x.status(0), 0);
        Due.is("1 no GOERS", x.status(1), 0);
        Due.is("1 AGE 0 at first", x.status(2), 0);
        Due.is("1 nothing in the BOOK", x.status(3), 0);
        Due.is("1 no ROOMS", x.status(4), 0);
        Due.is("1 no HEADS", x.status(5), 0);
        Due.is("1 no YEARS", x.status(6), 0);
        Due.is("1 THE TAPE is empty", x.status(7), 0);
        Due.is("1 SEED 1 at first", x.status(8), 1);
        Due.is("1 SHELVES hold NOTHING", x.status(9), 0);
        for (int why = 12; why <= 16; why++) {
            Due.is("1 no REFUSALS " + why, x.status(why), 0);
        }
        for (int s = 0; s < 8; s++) {
            Due.is("1 SHELF " + s, x.holds(s), -1);
            Due.is("1 no element of " + s, x.element(s, 0), 0);
            Due.is("1 NOTHING to set in " + s, x.set(s, 0, 1), -4);
        }
        Due.is("1 nothing kept", x.back(), -5);
        Due.is("1 the TAPE is no VALLEY", x.valley(), -20);
    }

    private static void callsOnAnEmptyValley() {
        EverybodyHasTheBook x = new EverybodyHasTheBook();
        Due.is("25 nobody is OUT", x.out(-1), 0);
        Due.is("26 nothing is FULL", x.full(), 0);
        Due.is("27 no JOY", x.joy(-1), 0);
        Due.is("32 none is in the BOOK", x.oldest(), -1);
        Due.is("38 two empty BOOKS", x.two(0, 0), 0);
        Due.is("40 YEARS", x.years(12, -1), 0);
        Due.is("42 BEST BOOK", x.book(12, 6), 0);
        Due.is("43 written", x.written(12, 0), 0);
        Due.is("44 many", x.many(12), 0);
        Due.is("45 ROUND", x.round(3, -1), 0);
        Due.is("45 to none", x.round(3, 0), -1);
        Due.is("53 goes", x.goes(12), 0);
        Due.is("58 nothing refused yet", x.status(12) + x.status(15), 0);
        Due.is("31 truest", x.truest(), -5);
        Due.is("54 post", x.post(1), -5);
        int[] bad = {x.innOf(0, 0), x.goerOf(0, 0), x.sleeps(0, 0), x.guests(0), x.out(0), x.taken(0), x.crowd(0),
            x.enough(0), x.better(0), x.trust(0), x.share(0), x.then(1, 0, 0), x.spoilt(0, 0), x.bears(0, 0, 1, 0),
            x.recovers(0), x.dearest(1, 0), x.write(1), x.say(0, 0), x.letter(0, 0), x.heads(0, 1), x.change(0, 0, 0)};
        for (int i = 0; i < bad.length; i++) {
            Due.is("1 nothing of number 0, call " + i, bad[i], -2);
        }
        int[] deep = {x.score(0, 0), x.joy(0), x.lean(0), x.nine(0, 1, 1), x.two(1, 0), x.two(0, 1), x.years(1, 0),
            x.written(1, 1), x.kept(1, 0), x.called(1, 0, 0)};
        for (int i = 0; i < deep.length; i++) {
            Due.is("1 nothing of number 0, deep call " + i, deep[i], -1000002);
        }
        Due.is("58 all refused", x.status(12), bad.length + deep.length);
    }

    private static void objectsShareNothing() {
        EverybodyHasTheBook x = Edge.busy();
        EverybodyHasTheBook y = new EverybodyHasTheBook();
        Due.is("1 another object has no INNS", y.status(0) + y.status(1), 0);
        Due.is("1 nor SHELVES", y.status(9), 0);
        Due.is("1 nor an image", y.back(), -5);
        y.inn(1, 1, 1);
        y.row(0, 0, 0);
        Due.is("1 the first one stays", x.innOf(0, 0), 60);
        Due.is("1 its SHELVES too", x.element(0, 1), 77);
    }

    private static void rowRanges() {
        Edge.of("2 SHELF", Edge::busy, (x, v) -> x.row(v, 0, 1)).least(0, 1).most(7, 1).elseRefused(-2);
        Edge.of("2 SORT", Edge::busy, (x, v) -> x.row(5, v, 1)).least(0, 1).most(4, 1).elseRefused(-2);
        Edge.of("2 elements", Edge::busy, (x, v) -> x.row(0, 0, v)).least(0, 1).most(40, 1).elseRefused(-2);
        Edge.refused("2 over GOERS", Edge::busy, x -> x.row(3, 5, 1), -2);
    }

    private static void rowAtFirst() {
        for (int sort = 0; sort < 5; sort++) {
            EverybodyHasTheBook x = new EverybodyHasTheBook();
            x.row(0, sort, 40);
            for (int i = 0; i < 40; i++) {
                Due.is("2 0 at first, SORT " + sort, x.element(0, i), 0);
                x.set(0, i, 1);
            }
            Due.is("2 the last of 40", x.element(0, 39), 1);
            Due.is("2 none behind 40", x.set(0, 40, 1), -2);
            x.row(0, sort, 40);
            for (int i = 0; i < 40; i++) {
                Due.is("2 0 at first again, SORT " + sort, x.element(0, i), 0);
            }
            x.row(0, sort, 0);
            Due.is("2 a ROW of none is a ROW", x.holds(0), sort);
            Due.is("2 it has no element", x.set(0, 0, 1), -2);
            Due.is("2 it counts as something", x.status(9), 1);
        }
    }

    /** Eight ROWS of three ints. */
    private static EverybodyHasTheBook rows() {
        EverybodyHasTheBook x = new EverybodyHasTheBook();
        for (int s = 0; s < 8; s++) {
            x.row(s, 2, 3);
            for (int i = 0; i < 3; i++) {
                x.set(s, i, 10 * s + i + 1);
            }
        }
        return x;
    }

    private static void setRanges() {
        Edge.of("3 SHELF", ShelfEdgesTest::rows, (x, v) -> x.set(v, 0, 5)).least(0, 1).most(7, 1).elseRefused(-2);
        Edge.of("3 i", ShelfEdgesTest::rows, (x, v) -> x.set(0, v, 5)).least(0, 1).most(2, 1).elseRefused(-2);
    }

    private static void setWraps() {
        long[][] told = {
            {0, 127, 127}, {0, 128, -128}, {0, 255, -1}, {0, 256, 0}, {0, 257, 1}, {0, -128, -128}, {0, -129, 127},
            {0, Long.MAX_VALUE, -1}, {0, Long.MIN_VALUE, 0},
            {1, 32767, 32767}, {1, 32768, -32768}, {1, 65535, -1}, {1, 65536, 0}, {1, -32768, -32768},
            {1, -32769, 32767}, {1, 200, 200}, {1, Long.MIN_VALUE, 0},
            {2, 2147483647L, 2147483647L}, {2, 2147483648L, -2147483648L}, {2, 4294967295L, -1}, {2, 4294967296L, 0},
            {2, -2147483648L, -2147483648L}, {2, -2147483649L, 2147483647L}, {2, 65536, 65536},
            {3, Long.MAX_VALUE, Long.MAX_VALUE}, {3, Long.MIN_VALUE, Long.MIN_VALUE}, {3, 4294967296L, 4294967296L},
            {4, 0, 0}, {4, 1, 1}, {4, 2, 1}, {4, -1, 1}, {4, 256, 1}, {4, 65536, 1}, {4, 4294967296L, 1},
            {4, Long.MIN_VALUE, 1}, {4, Long.MAX_VALUE, 1},
        };
        for (long[] one : told) {
            EverybodyHasTheBook x = new EverybodyHasTheBook();
            x.row(7, (int) one[0], 3);
            Due.is("3 set answers 1", x.set(7, 1, one[1]), 1);
            Due.is("3 lowest bits, SORT " + one[0] + " of " + one[1], x.element(7, 1), one[2]);
            Due.is("3 the one ahead stays", x.element(7, 0), 0);
            Due.is("3 the one behind stays", x.element(7, 2), 0);
        }
        EverybodyHasTheBook x = new EverybodyHasTheBook();
        x.row(0, 4, 1);
        x.set(0, 0, 9);
        x.set(0, 0, 0);
        Due.is("3 not so again", x.element(0, 0), 0);
    }

    private static void setOrder() {
        Edge.refused("3 BAD SHELF and i", Edge::busy, x -> x.set(8, 99, 1), -2);
        Edge.refused("3 OTHER ahead of BAD i", Edge::busy, x -> x.set(3, -1, 1), -3);
        Edge.refused("3 OTHER, i that may be", Edge::busy, x -> x.set(3, 0, 1), -3);
        Edge.refused("3 NOTHING ahead of BAD i", Edge::busy, x -> x.set(5, 40, 1), -4);
        Edge.refused("3 NOTHING, i that may be", Edge::busy, x -> x.set(7, 0, 1), -4);
        Edge.refused("3 BAD i", Edge::busy, x -> x.set(1, 3, 1), -2);
    }

    private static void copyRanges() {
        Edge.Made rows = ShelfEdgesTest::rows;
        Edge.of("4 SHELF p", rows, (x, v) -> x.copy(v, 1, 0, 0, 3)).least(0, 3).most(7, 3).elseRefused(-2);
        Edge.of("4 SHELF q", rows, (x, v) -> x.copy(1, v, 0, 0, 3)).least(0, 3).most(7, 3).elseRefused(-2);
        Edge.of("4 i for 1", rows, (x, v) -> x.copy(0, 1, v, 0, 1)).least(0, 1).most(2, 1).elseRefused(-2);
        Edge.of("4 j for 1", rows, (x, v) -> x.copy(0, 1, 0, v, 1)).least(0, 1).most(2, 1).elseRefused(-2);
        Edge.of("4 i for 2", rows, (x, v) -> x.copy(0, 1, v, 0, 2)).least(0, 2).most(1, 2).elseRefused(-2);
        Edge.of("4 j for 2", rows, (x, v) -> x.copy(0, 1, 0, v, 2)).least(0, 2).most(1, 2).elseRefused(-2);
        Edge.of("4 i for all", rows, (x, v) -> x.copy(0, 1, v, 0, 3)).least(0, 3).most(0, 3).elseRefused(-2);
        Edge.of("4 j for all", rows, (x, v) -> x.copy(0, 1, 0, v, 3)).least(0, 3).most(0, 3).elseRefused(-2);
        Edge.of("4 n", rows, (x, v) -> x.copy(0, 1, 0, 0, v)).least(0, 0).most(3, 3).elseRefused(-2);
        Edge.of("4 n from 1", rows, (x, v) -> x.copy(0, 1, 1, 0, v)).least(0, 0).most(2, 2).elseRefused(-2);
        Edge.of("4 n to 1", rows, (x, v) -> x.copy(0, 1, 0, 1, v)).least(0, 0).most(2, 2).elseRefused(-2);
        Edge.refused("4 i and n wrap", rows, x -> x.copy(0, 1, Integer.MAX_VALUE, 0, 1), -2);
        Edge.refused("4 j and n wrap", rows, x -> x.copy(0, 1, 0, Integer.MAX_VALUE, Integer.MAX_VALUE), -2);
        Edge.refused("4 far below", rows, x -> x.copy(0, 1, Integer.MIN_VALUE, 0, Integer.MIN_VALUE), -2);
    }

    private static void copyOfNone() {
        Edge.Made rows = ShelfEdgesTest::rows;
        Edge.of("4 i for none", rows, (x, v) -> x.copy(0, 1, v, 0, 0)).least(0, 0).most(3, 0).elseRefused(-2);
        Edge.of("4 j for none", rows, (x, v) -> x.copy(0, 1, 0, v, 0)).least(0, 0).most(3, 0).elseRefused(-2);
        Edge.thought("4 none, both at their sizes", rows, x -> x.copy(0, 1, 3, 3, 0), 0);
        Edge.refused("4 one at the size", rows, x -> x.copy(0, 1, 3, 0, 1), -2);
        Edge.refused("4 one to the size", rows, x -> x.copy(0, 1, 0, 3, 1), -2);
        EverybodyHasTheBook x = new EverybodyHasTheBook();
        x.row(0, 0, 0);
        x.row(1, 0, 0);
        Due.is("4 none of no elements", x.copy(0, 1, 0, 0, 0), 0);
        Due.is("4 none onto itself", x.copy(0, 0, 0, 0, 0), 0);
        Due.is("4 one of no elements", x.copy(0, 1, 0, 0, 1), -2);
        Due.is("4 behind no elements", x.copy(0, 1, 1, 0, 0), -2);
        Due.is("4 to behind no elements", x.copy(0, 1, 0, 1, 0), -2);
    }

    private static void copyOfSizes() {
        EverybodyHasTheBook x = new EverybodyHasTheBook();
        x.row(0, 3, 2);
        x.row(1, 3, 40);
        x.set(0, 0, 8);
        x.set(0, 1, 9);
        Due.is("4 to the last places of 40", x.copy(0, 1, 0, 38, 2), 2);
        Due.is("4 the last of 40", x.element(1, 39), 9);
        Due.is("4 one place too far", x.copy(0, 1, 0, 39, 2), -2);
        Due.is("4 more than p has", x.copy(0, 1, 0, 0, 3), -2);
        Due.is("4 more than q has", x.copy(1, 0, 0, 0, 3), -2);
        Due.is("4 as many as q has", x.copy(1, 0, 37, 0, 2), 2);
        Due.is("4 what came", x.element(0, 0) * 10 + x.element(0, 1), 8);
        x.row(2, 3, 40);
        Due.is("4 all 40", x.copy(1, 2, 0, 0, 40), 40);
        Due.is("4 the last came", x.element(2, 39), 9);
        Due.is("4 41", x.copy(1, 2, 0, 0, 41), -2);
    }

    private static void copyOverlaps() {
        int[][] told = {{0, 1, 4, 11234}, {1, 0, 4, 23455}, {0, 2, 3, 12123}, {2, 0, 3, 34545}, {0, 0, 5, 12345},
            {0, 4, 1, 12341}, {4, 0, 1, 52345}, {5, 5, 0, 12345}};
        for (int[] one : told) {
            EverybodyHasTheBook x = new EverybodyHasTheBook();
            x.row(0, 2, 5);
            for (int i = 0; i < 5; i++) {
                x.set(0, i, i + 1);
            }
            Due.is("4 within one ROW", x.copy(0, 0, one[0], one[1], one[2]), one[2]);
            long all = 0;
            for (int i = 0; i < 5; i++) {
                all = 10 * all + x.element(0, i);
            }
            Due.is("4 as they were, " + one[0] + " to " + one[1], all, one[3]);
        }
    }

    private static void copyKeepsEachSort() {
        long[] least = {-128, -32768, Integer.MIN_VALUE, Long.MIN_VALUE, 1};
        for (int sort = 0; sort < 5; sort++) {
            EverybodyHasTheBook x = new EverybodyHasTheBook();
            x.row(0, sort, 1);
            x.row(1, sort, 1);
            x.set(0, 0, least[sort]);
            Due.is("4 SORT " + sort, x.copy(0, 1, 0, 0, 1), 1);
            Due.is("4 as it was, SORT " + sort, x.element(1, 0), least[sort]);
            for (int other = 0; other < 5; other++) {
                x.row(2, other, 1);
                Due.is("4 SORTS " + sort + " and " + other, x.copy(0, 2, 0, 0, 1), sort == other ? 1 : -3);
            }
        }
    }

    private static void copyOrder() {
        Edge.Made busy = Edge::busy;
        Edge.refused("4 BAD p ahead of OTHER", busy, x -> x.copy(8, 3, 0, 0, 1), -2);
        Edge.refused("4 BAD q ahead of OTHER", busy, x -> x.copy(3, -1, 0, 0, 1), -2);
        Edge.refused("4 BAD q ahead of NOTHING", busy, x -> x.copy(5, 8, 0, 0, 1), -2);
        Edge.refused("4 OTHER in p ahead of NOTHING in q", busy, x -> x.copy(3, 5, 0, 0, 1), -3);
        Edge.refused("4 OTHER in q ahead of NOTHING in p", busy, x -> x.copy(5, 3, 0, 0, 1), -3);
        Edge.refused("4 OTHER in p ahead of BAD others", busy, x -> x.copy(3, 0, -1, 0, 1), -3);
        Edge.refused("4 OTHER in q ahead of BAD others", busy, x -> x.copy(0, 3, 0, 0, -1), -3);
        Edge.refused("4 GOERS in both", busy, x -> x.copy(3, 3, 0, 0, 0), -3);
        Edge.refused("4 two SORTS ahead of BAD i", busy, x -> x.copy(0, 2, -1, 0, 1), -3);
        Edge.refused("4 two SORTS ahead of BAD n", busy, x -> x.copy(2, 0, 0, 0, 41), -3);
        Edge.refused("4 two SORTS, none to copy", busy, x -> x.copy(0, 4, 0, 0, 0), -3);
        Edge.refused("4 NOTHING in p, whatever the SORT", busy, x -> x.copy(5, 2, 0, 0, 1), -4);
        Edge.refused("4 NOTHING in q, whatever the SORT", busy, x -> x.copy(2, 5, 0, 0, 1), -4);
        Edge.refused("4 NOTHING in p ahead of BAD j", busy, x -> x.copy(5, 0, 0, 9, 1), -4);
        Edge.refused("4 NOTHING in q ahead of BAD i", busy, x -> x.copy(0, 5, 9, 0, 1), -4);
        Edge.refused("4 NOTHING in both", busy, x -> x.copy(6, 7, 0, 0, 0), -4);
        Edge.refused("4 NOTHING onto itself", busy, x -> x.copy(6, 6, 0, 0, 0), -4);
        Edge.refused("4 BAD i", busy, x -> x.copy(0, 1, 4, 0, 1), -2);
    }

    private static void elementRefusesNothing() {
        Edge.of("5 SHELF", ShelfEdgesTest::rows, (x, v) -> x.element(v, 2)).least(0, 3).most(7, 73).elseUnrefused(0);
        Edge.of("5 i", ShelfEdgesTest::rows, (x, v) -> x.element(6, v)).least(0, 61).most(2, 63).elseUnrefused(0);
        Edge.thought("5 GOERS", Edge::busy, x -> x.element(3, 0), 0);
        Edge.thought("5 NOTHING", Edge::busy, x -> x.element(5, 0), 0);
        EverybodyHasTheBook x = new EverybodyHasTheBook();
        x.goer(0, 1, 0);
        x.row(0, 3, 2);
        x.set(0, 1, 5);
        x.show(0, 0);
        Due.is("5 no ROW where one was, GOERS", x.element(0, 1), 0);
        x.show(0, -1);
        Due.is("5 no ROW where one was, NOTHING", x.element(0, 1), 0);
        x.row(0, 3, 1);
        Due.is("5 none in a smaller ROW", x.element(0, 1), 0);
        Edge.of("5 i of 40", ShelfEdgesTest::forty, (y, v) -> y.element(7, v)).least(0, 7).most(39, 9).elseUnrefused(0);
        Edge.of("5 i of none", () -> rowOf(0), (y, v) -> y.element(7, v)).least(0, 0).most(0, 0).elseUnrefused(0);
        Edge.of("3 i of 40", ShelfEdgesTest::forty, (y, v) -> y.set(7, v, 5)).least(0, 1).most(39, 1).elseRefused(-2);
        Edge.refused("3 i of none", () -> rowOf(0), y -> y.set(7, 0, 5), -2);
    }

    private static EverybodyHasTheBook rowOf(int size) {
        EverybodyHasTheBook x = new EverybodyHasTheBook();
        x.row(7, 2, size);
        return x;
    }

    private static EverybodyHasTheBook forty() {
        EverybodyHasTheBook x = rowOf(40);
        x.set(7, 0, 7);
        x.set(7, 39, 9);
        return x;
    }

    private static void holdsRefusesNothing() {
        Edge.of("6 SHELF", ShelfEdgesTest::rows, (x, v) -> x.holds(v)).least(0, 2).most(7, 2).elseUnrefused(-1);
        Edge.thought("6 the least SORT", Edge::busy, x -> x.holds(4), 0);
        Edge.thought("6 the greatest SORT", Edge::busy, x -> x.holds(2), 4);
        Edge.thought("6 GOERS", Edge::busy, x -> x.holds(3), 11);
        Edge.thought("6 NOTHING", Edge::busy, x -> x.holds(7), -1);
        EverybodyHasTheBook x = Edge.six();
        x.show(0, 0);
        x.show(1, 5);
        Due.is("6 the least GOER", x.holds(0), 10);
        Due.is("6 the greatest GOER", x.holds(1), 15);
    }

    private static void showRanges() {
        Edge.of("7 SHELF", Edge::busy, (x, v) -> x.show(v, 0)).least(0, 1).most(7, 1).elseRefused(-2);
        Edge.of("7 SHELF, NONE", Edge::busy, (x, v) -> x.show(v, -1)).least(0, 1).most(7, 1).elseRefused(-2);
        Edge.of("7 GOER of three", Edge::busy, (x, v) -> x.show(0, v)).least(-1, 1).most(2, 1).elseRefused(-2);
        Edge.of("7 GOER of six", Edge::six, (x, v) -> x.show(0, v)).least(-1, 1).most(5, 1).elseRefused(-2);
        Edge.of("7 no GOERS", EverybodyHasTheBook::new, (x, v) -> x.show(0, v)).least(-1, 1).most(-1, 1).elseRefused(-2);
        EverybodyHasTheBook x = Edge.busy();
        x.show(0, -1);
        x.show(3, -1);
        Due.is("7 NOTHING where a ROW was", x.holds(0), -1);
        Due.is("7 NOTHING where GOERS were", x.holds(3), -1);
        Due.is("7 three are left", x.status(9), 3);
        x.show(3, -1);
        Due.is("7 NOTHING over NOTHING", x.status(9), 3);
    }

    /** GOERS of a KIND on every SHELF. */
    private static EverybodyHasTheBook shown(int kind) {
        EverybodyHasTheBook x = new EverybodyHasTheBook();
        x.inn(50, 1, 99);
        x.inn(60, 1, 10);
        x.say(1, 2);
        x.goer(kind, 30, 0);
        for (int s = 0; s < 8; s++) {
            x.show(s, 0);
        }
        return x;
    }

    private static void saysRanges() {
        Edge.of("8 SHELF", () -> shown(1), (x, v) -> x.says(v, 0)).least(0, 30).most(7, 30).elseRefused(-2);
        Edge.of("8 SHELF, INN", () -> shown(3), (x, v) -> x.says(v, 3)).least(0, 1).most(7, 1).elseRefused(-2);
        Edge.of("8 KIND", () -> shown(5), (x, v) -> x.says(7, v)).least(0, 30).most(5, 1).elseRefused(-2);
    }

    private static void saysWhatTheyAreOf() {
        int[] above = {-1, 0, 1, 0, 1, 1};
        for (int kind = 0; kind < 6; kind++) {
            for (int as = 0; as < 6; as++) {
                int own = kind;
                int taken = as;
                boolean fits = as == 0 || as == kind || above[kind] == as;
                if (as == 0) {
                    Edge.answered("8 HEADS of KIND " + kind, () -> shown(own), x -> x.says(0, 0), 30);
                } else if (fits) {
                    Edge.answered("8 KIND " + kind + " as " + as, () -> shown(own), x -> x.says(0, taken), 1);
                } else {
                    Edge.refused("8 KIND " + kind + " as " + as, () -> shown(own), x -> x.says(0, taken), -3);
                }
            }
        }
    }

    private static void saysOrder() {
        Edge.Made busy = Edge::busy;
        Edge.refused("8 BAD SHELF and KIND", busy, x -> x.says(8, 6), -2);
        Edge.refused("8 BAD KIND ahead of OTHER, a ROW", busy, x -> x.says(0, 6), -2);
        Edge.refused("8 BAD KIND ahead of OTHER, GOERS", busy, x -> x.says(3, -1), -2);
        Edge.refused("8 BAD KIND ahead of NOTHING", busy, x -> x.says(5, 6), -2);
        Edge.refused("8 a ROW", busy, x -> x.says(0, 0), -3);
        Edge.refused("8 a ROW, the greatest KIND", busy, x -> x.says(0, 5), -3);
        Edge.refused("8 OWN ones are no BOOKED ones", busy, x -> x.says(3, 1), -3);
        Edge.refused("8 NOTHING", busy, x -> x.says(5, 0), -4);
        Edge.refused("8 NOTHING, the greatest KIND", busy, x -> x.says(7, 5), -4);
    }

    private static void saysFirstOfSeveral() {
        EverybodyHasTheBook x = new EverybodyHasTheBook();
        x.goer(2, 4, 99);
        x.show(0, 0);
        Due.is("8 no INNS: NONE", x.says(0, 2), -1);
        Due.is("8 no INNS: HEADS", x.says(0, 0), 4);
        Due.is("8 NONE is no refusal", x.status(12) + x.status(13) + x.status(14), 0);
        x.inn(50, 1, 50);
        x.inn(50, 1, 50);
        x.inn(50, 1, 50);
        Due.is("8 of several the first", x.says(0, 2), 0);
        x.say(0, 10);
        Due.is("8 of the others the first", x.says(0, 2), 1);
        x.say(1, 10);
        x.say(2, 11);
        Due.is("8 the greatest below 0", x.says(0, 2), 2);
        x.goer(0, 30, 0);
        Due.is("8 whether it has ROOMS left or not", x.says(0, 1), 2);
    }
}
