/** Promises 1 to 8: a new object and what stands on its SHELVES. */
public final class ShelvesTest {
    public static void main(String[] args) {
        newObject();
        row();
        set();
        setKeepsLowestBits();
        copy();
        copyWithinOneRow();
        copyRefuses();
        element();
        holds();
        show();
        says();
        saysRefuses();
        Due.end();
    }

    private static void newObject() {
        EverybodyHasTheBook x = new EverybodyHasTheBook();
        Due.is("1 NONE", EverybodyHasTheBook.NONE, -1);
        int[] due = {0, 0, 0, 0, 0, 0, 0, 0, 1, 0, -1, -1, 0, 0, 0, 0, 0};
        for (int what = 0; what < due.length; what++) {
            Due.is("1 status " + what, x.status(what), due[what]);
        }
        for (int s = 0; s < 8; s++) {
            Due.is("1 holds " + s, x.holds(s), -1);
        }
        Due.is("1 innOf", x.innOf(0, 0), -2);
        Due.is("1 goerOf", x.goerOf(0, 0), -2);
        Due.is("1 wipe", x.wipe(), 0);
    }

    private static void row() {
        EverybodyHasTheBook x = new EverybodyHasTheBook();
        Due.is("2 row 0", x.row(0, 0, 0), 1);
        Due.is("2 row 7", x.row(7, 4, 40), 1);
        Due.is("2 shelf -1", x.row(-1, 0, 1), -2);
        Due.is("2 shelf 8", x.row(8, 0, 1), -2);
        Due.is("2 sort -1", x.row(1, -1, 1), -2);
        Due.is("2 sort 5", x.row(1, 5, 1), -2);
        Due.is("2 size -1", x.row(1, 0, -1), -2);
        Due.is("2 size 41", x.row(1, 0, 41), -2);
        Due.is("2 nothing refused stands", x.holds(1), -1);
        Due.is("2 refused", x.status(12), 6);
        x.row(2, 3, 40);
        x.set(2, 0, 8);
        Due.is("2 last element", x.set(2, 39, 9), 1);
        Due.is("5 behind the last element", x.element(2, 40), 0);
        Due.is("2 anew", x.row(2, 3, 40), 1);
        Due.is("2 a new row is 0", x.element(2, 39), 0);
        Due.is("2 a new row is 0 in front", x.element(2, 0), 0);
        Due.is("2 smaller", x.row(2, 1, 3), 1);
        Due.is("2 its sort", x.holds(2), 1);
        Due.is("2 its size", x.set(2, 3, 1), -2);
        x.goer(0, 1, 0);
        x.show(2, 0);
        Due.is("2 over a goer", x.row(2, 2, 1), 1);
        Due.is("2 over a goer holds", x.holds(2), 2);
    }

    private static void set() {
        EverybodyHasTheBook x = new EverybodyHasTheBook();
        x.row(0, 2, 3);
        x.goer(0, 1, 0);
        x.show(1, 0);
        Due.is("3 set", x.set(0, 2, 77), 1);
        Due.is("3 stands", x.element(0, 2), 77);
        Due.is("3 others stay", x.element(0, 1), 0);
        Due.is("3 i -1", x.set(0, -1, 1), -2);
        Due.is("3 i 3", x.set(0, 3, 1), -2);
        Due.is("3 shelf -1", x.set(-1, 0, 1), -2);
        Due.is("3 shelf 8", x.set(8, 0, 1), -2);
        Due.is("3 goer ahead of bad i", x.set(1, -1, 1), -3);
        Due.is("3 nothing ahead of bad i", x.set(2, -1, 1), -4);
        Due.is("3 bad told", x.status(12), 4);
        Due.is("3 other told", x.status(13), 1);
        Due.is("3 nothing told", x.status(14), 1);
        x.row(3, 0, 0);
        Due.is("3 no elements", x.set(3, 0, 1), -2);
    }

    private static void setKeepsLowestBits() {
        EverybodyHasTheBook x = new EverybodyHasTheBook();
        long[][] told = {
            {0, 200, -56}, {0, 127, 127}, {0, 256, 0}, {0, -129, 127},
            {1, 40000, -25536}, {1, -32768, -32768}, {1, 65537, 1},
            {2, 1L << 31, -(1L << 31)}, {2, (1L << 32) + 5, 5},
            {3, Long.MIN_VALUE, Long.MIN_VALUE}, {3, 1L << 40, 1L << 40},
            {4, 2, 1}, {4, 0, 0}, {4, -1, 1}, {4, 1L << 32, 1}, {4, 256, 1},
        };
        for (long[] one : told) {
            x.row(0, (int) one[0], 1);
            x.set(0, 0, one[1]);
            Due.is("3 sort " + one[0] + " of " + one[1], x.element(0, 0), one[2]);
        }
    }

    private static void copy() {
        EverybodyHasTheBook x = new EverybodyHasTheBook();
        x.row(0, 2, 4);
        x.row(1, 2, 6);
        for (int i = 0; i < 4; i++) {
            x.set(0, i, i + 1);
        }
        Due.is("4 copy", x.copy(0, 1, 1, 3, 3), 3);
        long[] due = {0, 0, 0, 2, 3, 4};
        for (int i = 0; i < 6; i++) {
            Due.is("4 element " + i, x.element(1, i), due[i]);
        }
        Due.is("4 the first stays", x.element(0, 0), 1);
        Due.is("4 none, at the sizes", x.copy(0, 1, 4, 6, 0), 0);
        Due.is("4 none, behind the size", x.copy(0, 1, 5, 6, 0), -2);
        Due.is("4 none, behind the other size", x.copy(0, 1, 4, 7, 0), -2);
        Due.is("4 all", x.copy(0, 1, 0, 2, 4), 4);
        Due.is("4 one too many in p", x.copy(0, 1, 1, 0, 4), -2);
        Due.is("4 one too many in q", x.copy(0, 1, 0, 3, 4), -2);
        Due.is("4 i at the size", x.copy(0, 1, 4, 0, 1), -2);
    }

    private static void copyWithinOneRow() {
        EverybodyHasTheBook x = new EverybodyHasTheBook();
        x.row(0, 0, 5);
        for (int i = 0; i < 5; i++) {
            x.set(0, i, i);
        }
        Due.is("4 upwards", x.copy(0, 0, 0, 1, 4), 4);
        long[] up = {0, 0, 1, 2, 3};
        for (int i = 0; i < 5; i++) {
            Due.is("4 as they were, upwards " + i, x.element(0, i), up[i]);
        }
        x.copy(0, 0, 1, 0, 4);
        long[] down = {0, 1, 2, 3, 3};
        for (int i = 0; i < 5; i++) {
            Due.is("4 as they were, downwards " + i, x.element(0, i), down[i]);
        }
    }

    private static void copyRefuses() {
        EverybodyHasTheBook x = new EverybodyHasTheBook();
        x.row(0, 2, 4);
        x.row(1, 3, 4);
        x.row(4, 2, 4);
        x.goer(0, 1, 0);
        x.show(2, 0);
        Due.is("4 p -1", x.copy(-1, 0, 0, 0, 1), -2);
        Due.is("4 p 8", x.copy(8, 2, 0, 0, 1), -2);
        Due.is("4 q 8", x.copy(2, 8, 0, 0, 1), -2);
        Due.is("4 q -1", x.copy(0, -1, 0, 0, 1), -2);
        Due.is("4 two sorts", x.copy(0, 1, -1, 0, 1), -3);
        Due.is("4 p a goer", x.copy(2, 0, 0, 0, 1), -3);
        Due.is("4 q a goer", x.copy(0, 2, 0, 0, 1), -3);
        Due.is("4 a goer onto itself", x.copy(2, 2, 0, 0, 0), -3);
        Due.is("4 a goer and nothing", x.copy(2, 3, 0, 0, 1), -3);
        Due.is("4 nothing and a goer", x.copy(3, 2, 0, 0, 1), -3);
        Due.is("4 nothing in p", x.copy(3, 0, -1, 0, 1), -4);
        Due.is("4 nothing in q", x.copy(0, 3, 0, -1, 1), -4);
        Due.is("4 nothing in both", x.copy(3, 5, 0, 0, 1), -4);
        Due.is("4 i -1", x.copy(0, 4, -1, 0, 1), -2);
        Due.is("4 j -1", x.copy(0, 4, 0, -1, 1), -2);
        Due.is("4 n -1", x.copy(0, 4, 1, 1, -1), -2);
        Due.is("4 far", x.copy(0, 4, Integer.MAX_VALUE, 0, Integer.MAX_VALUE), -2);
        Due.is("4 far below", x.copy(0, 4, 0, 0, Integer.MIN_VALUE), -2);
        Due.is("4 bad told", x.status(12), 9);
        Due.is("4 other told", x.status(13), 6);
        Due.is("4 nothing told", x.status(14), 3);
    }

    private static void element() {
        EverybodyHasTheBook x = new EverybodyHasTheBook();
        x.row(0, 3, 2);
        x.set(0, 1, -5);
        x.goer(0, 1, 0);
        x.show(1, 0);
        Due.is("5 element", x.element(0, 1), -5);
        Due.is("5 i -1", x.element(0, -1), 0);
        Due.is("5 i 2", x.element(0, 2), 0);
        Due.is("5 a goer", x.element(1, 0), 0);
        Due.is("5 nothing", x.element(2, 0), 0);
        Due.is("5 shelf 8", x.element(8, 0), 0);
        Due.is("5 shelf -1", x.element(-1, 0), 0);
        x.row(0, 3, 1);
        Due.is("5 behind a smaller row", x.element(0, 1), 0);
        Due.is("5 nothing is refused", x.status(12) + x.status(13) + x.status(14), 0);
    }

    private static void holds() {
        EverybodyHasTheBook x = new EverybodyHasTheBook();
        for (int sort = 0; sort < 5; sort++) {
            x.row(sort, sort, 1);
            Due.is("6 sort " + sort, x.holds(sort), sort);
        }
        for (int g = 0; g < 6; g++) {
            x.goer(g, 1, 0);
            x.show(6, g);
            Due.is("6 goer " + g, x.holds(6), 10 + g);
        }
        Due.is("6 nothing", x.holds(5), -1);
        Due.is("6 shelf 8", x.holds(8), -1);
        Due.is("6 shelf -1", x.holds(-1), -1);
        Due.is("6 nothing is refused", x.status(12), 0);
    }

    private static void show() {
        EverybodyHasTheBook x = new EverybodyHasTheBook();
        Due.is("7 nobody yet", x.show(0, 0), -2);
        x.goer(0, 1, 0);
        Due.is("7 show", x.show(0, 0), 1);
        Due.is("7 on the last shelf", x.show(7, 0), 1);
        Due.is("7 goer 1", x.show(0, 1), -2);
        Due.is("7 goer -2", x.show(0, -2), -2);
        Due.is("7 shelf 8", x.show(8, 0), -2);
        Due.is("7 shelf -1", x.show(-1, -1), -2);
        Due.is("7 it stays", x.holds(0), 10);
        Due.is("7 nothing", x.show(0, -1), 1);
        Due.is("7 holds nothing", x.holds(0), -1);
        x.row(0, 1, 1);
        Due.is("7 nothing over a row", x.show(0, -1), 1);
        Due.is("7 the row is gone", x.holds(0), -1);
        Due.is("7 refused", x.status(12), 5);
    }

    /** Scores of the inns: GOER 70, 90; BOOKED 60, 0; AGAINST 50 (a 10), 90; OWN 75, 45. */
    private static EverybodyHasTheBook twoInns() {
        EverybodyHasTheBook x = Due.of("inn 90 3 30 said 60; inn 50 3 10");
        int[] a = {0, 0, 10, 0, 1, 0};
        for (int kind = 0; kind < 6; kind++) {
            x.goer(kind, 5 + kind, a[kind]);
            x.show(kind, kind);
        }
        return x;
    }

    private static void says() {
        EverybodyHasTheBook x = twoInns();
        x.letter(1, 61);
        for (int kind = 0; kind < 6; kind++) {
            Due.is("8 heads of kind " + kind, x.says(kind, 0), 5 + kind);
        }
        Due.is("8 booked", x.says(1, 1), 0);
        Due.is("8 against, as booked", x.says(2, 1), 1);
        Due.is("8 against", x.says(2, 2), 1);
        Due.is("8 own", x.says(3, 3), 0);
        Due.is("8 lettered, as booked", x.says(4, 1), 1);
        Due.is("8 lettered", x.says(4, 4), 1);
        Due.is("8 late, as booked", x.says(5, 1), 0);
        Due.is("8 late", x.says(5, 5), 0);
        x.age(40);
        Due.is("8 of several the first", x.says(1, 1), 0);
        x.say(1, 100);
        Due.is("8 by the book as it is now", x.says(1, 1), 1);
        x.goes(1);
        x.heads(1, 30);
        Due.is("8 heads as they are now", x.says(1, 0), 30);
        Due.is("8 rooms or not", x.says(1, 1), 1);
        EverybodyHasTheBook none = new EverybodyHasTheBook();
        none.goer(1, 3, 0);
        none.show(0, 0);
        Due.is("8 no inns", none.says(0, 1), -1);
        Due.is("8 no inns, heads", none.says(0, 0), 3);
        Due.is("8 nothing refused", none.status(12), 0);
    }

    private static void saysRefuses() {
        EverybodyHasTheBook x = twoInns();
        boolean[][] fits = {
            {true, false, false, false, false, false}, {true, true, false, false, false, false},
            {true, true, true, false, false, false}, {true, false, false, true, false, false},
            {true, true, false, false, true, false}, {true, true, false, false, false, true},
        };
        for (int s = 0; s < 6; s++) {
            for (int kind = 0; kind < 6; kind++) {
                Due.is("8 kind " + s + " as " + kind, x.says(s, kind) == -3 ? 1 : 0, fits[s][kind] ? 0 : 1);
            }
        }
        x.row(6, 0, 1);
        Due.is("8 a row", x.says(6, 0), -3);
        Due.is("8 nothing", x.says(7, 0), -4);
        Due.is("8 shelf 8", x.says(8, 0), -2);
        Due.is("8 shelf -1", x.says(-1, 0), -2);
        Due.is("8 kind 6 ahead of a row", x.says(6, 6), -2);
        Due.is("8 kind -1 ahead of nothing", x.says(7, -1), -2);
    }
}
