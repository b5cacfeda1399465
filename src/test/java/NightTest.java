/** Promises 22 to 39: SCORES, who sleeps where tonight, and what comes of the one NIGHT. */
public final class NightTest {
    public static void main(String[] args) {
        score();
        scoreOfLettered();
        night();
        lateOnesAreLast();
        joyWhereNobodyIsFull();
        sixOfEach();
        crowd();
        lean();
        truest();
        oldest();
        enough();
        better();
        trust();
        share();
        nine();
        two();
        judge();
        Due.end();
    }

    private static void score() {
        EverybodyHasTheBook x = Due.of("inn 80 2 30; inn 60 3 11 said 90; inn 50 10 50 said 40; age 5;"
            + "goer 0 1 0; goer 1 1 0; goer 2 1 15; goer 3 1 0; goer 4 1 2; goer 5 1 0");
        int[][] due = {{70, 89, 50}, {0, 80, 30}, {70, 65, 15}, {65, 55, 25}, {0, 80, 30}, {0, 80, 30}};
        for (int g = 0; g < 6; g++) {
            for (int i = 0; i < 3; i++) {
                Due.is("22 score of " + g + " " + i, x.score(g, i), due[g][i]);
            }
        }
        x.age(20);
        Due.is("22 0 at least", x.score(1, 2), 0);
        Due.is("22 less a from 0", x.score(2, 2), -15);
        x.age(19);
        Due.is("22 twice age", x.score(1, 2), 2);
        x.change(0, 0, 0);
        x.change(0, 1, 99);
        Due.is("22 below 0", x.score(3, 0), -49);
        Due.is("22 dear", x.score(0, 0), 1);
        Due.is("22 against, dear", x.score(2, 0), 1);
        x.say(0, 0);
        x.age(0);
        Due.is("22 in the book with 0", x.score(2, 0), -15);
        int[][] bad = {{-1, 0}, {6, 0}, {0, -1}, {0, 3}};
        for (int[] one : bad) {
            Due.is("22 bad", x.score(one[0], one[1]), -1000002);
        }
        Due.is("22 refused", x.status(12), 4);
    }

    private static void scoreOfLettered() {
        EverybodyHasTheBook x = Due.of("inn 80 2 30 said 60; age 10; goer 4 1 2; goer 4 1 0; goer 4 1 1");
        Due.is("22 no letters", x.score(0, 0), 40);
        Due.is("22 a 0, no letters", x.score(1, 0), 40);
        x.letter(0, 30);
        Due.is("22 too few", x.score(0, 0), 40);
        Due.is("22 a 0, one letter", x.score(1, 0), 30);
        Due.is("22 a 1, one letter", x.score(2, 0), 30);
        x.letter(0, 41);
        Due.is("22 enough, cut", x.score(0, 0), 35);
    }

    /** GOER: 90, 60; OWN: 45, 50. */
    private static EverybodyHasTheBook crowded() {
        return Due.of("inn 50 3 10; inn 70 2 40; goer 5 2 0; goer 0 4 0; goer 3 3 0");
    }

    private static void night() {
        EverybodyHasTheBook x = crowded();
        int[][] beds = {{0, 0}, {3, 1}, {0, 1}};
        for (int g = 0; g < 3; g++) {
            for (int i = 0; i < 2; i++) {
                Due.is("23 sleeps " + g + " " + i, x.sleeps(g, i), beds[g][i]);
            }
        }
        Due.is("23 goer 3", x.sleeps(3, 0), -2);
        Due.is("23 goer -1", x.sleeps(-1, 0), -2);
        Due.is("23 inn 2", x.sleeps(0, 2), -2);
        Due.is("23 inn -1", x.sleeps(0, -1), -2);
        Due.is("24 guests 0", x.guests(0), 3);
        Due.is("24 guests 1", x.guests(1), 2);
        Due.is("24 inn 2", x.guests(2), -2);
        Due.is("24 inn -1", x.guests(-1), -2);
        int[] outside = {2, 0, 2};
        for (int g = 0; g < 3; g++) {
            Due.is("25 out " + g, x.out(g), outside[g]);
        }
        Due.is("25 of all", x.out(-1), 4);
        Due.is("25 goer 3", x.out(3), -2);
        Due.is("25 goer -2", x.out(-2), -2);
        Due.is("26 full", x.full(), 3);
        int[] joys = {-60, 70, -50};
        for (int g = 0; g < 3; g++) {
            Due.is("27 joy " + g, x.joy(g), joys[g]);
        }
        Due.is("27 of all", x.joy(-1), -40);
        Due.is("27 goer 3", x.joy(3), -1000002);
        Due.is("27 goer -2", x.joy(-2), -1000002);
        Due.is("28 taken 0", x.taken(0), 30);
        Due.is("28 taken 1", x.taken(1), 80);
        Due.is("28 inn 2", x.taken(2), -2);
        Due.is("28 inn -1", x.taken(-1), -2);
        Due.is("28 refused", x.status(12), 12);
    }

    private static void lateOnesAreLast() {
        EverybodyHasTheBook x = Due.of("inn 50 1 10; inn 50 1 10; inn 50 1 10; inn 50 1 10;"
            + "goer 5 1 0; goer 1 1 0; goer 5 1 0; goer 1 1 0");
        int[] where = {2, 0, 3, 1};
        for (int g = 0; g < 4; g++) {
            Due.is("23 late ones behind all others " + g, x.sleeps(g, where[g]), 1);
        }
        x.write(8);
        Due.is("23 the first of them has the best", x.sleeps(1, 3), 1);
        Due.is("23 of several the first", x.sleeps(3, 0), 1);
        x.heads(1, 3);
        Due.is("23 the rest to the next one", x.sleeps(1, 1), 1);
        Due.is("25 the last one is out", x.out(2), 1);
    }

    private static void joyWhereNobodyIsFull() {
        EverybodyHasTheBook x = Due.of("inn 50 3 60; inn 70 2 40; goer 0 2 0; goer 3 1 0");
        Due.is("26 none", x.full(), 1 << 1);
        Due.is("27 full by two, 20 less", x.joy(0), 2 * (70 - 40 - 20));
        Due.is("27 not full, may be below 0", x.joy(1), 50 - 60);
        Due.is("27 of all", x.joy(-1), 10);
        x.heads(0, 1);
        Due.is("26 by two kinds of goers", x.full(), 2);
        Due.is("27 each is 20 less", x.joy(1), 10);
        x.change(1, 0, 0);
        x.change(1, 1, 99);
        Due.is("27 goes where it's cheap", x.joy(0), -10);
        Due.is("26 none is full", x.full(), 0);
        EverybodyHasTheBook none = Due.of("goer 1 7 0");
        Due.is("25 no inns", none.out(-1), 7);
        Due.is("27 no inns", none.joy(-1), -210);
        Due.is("26 no inns", none.full(), 0);
    }

    private static void sixOfEach() {
        EverybodyHasTheBook x = new EverybodyHasTheBook();
        for (int k = 0; k < 6; k++) {
            x.inn(50 + k, 5, 60 - 10 * k);
            x.goer(0, 6, 0);
        }
        for (int k = 0; k < 5; k++) {
            Due.is("23 five of six, " + k, x.sleeps(k, 5 - k), 5 - k);
            Due.is("23 the rest, " + k, x.sleeps(k, 4 - k), k + 1);
        }
        Due.is("24 all beds", x.guests(0), 5);
        Due.is("25 the last ones", x.out(5), 6);
        Due.is("25 of all six", x.out(-1), 6);
        Due.is("26 all", x.full(), 63);
        int joy = 5 * (55 - 10) + 5 * (54 - 20) + 5 * (53 - 30) + 5 * (52 - 40) + 5 * (51 - 50) + 5 * (50 - 60);
        Due.is("27 joy", x.joy(-1), joy - 30 * 20 - 6 * 30);
        Due.is("28 taken", x.taken(0), 300);
        Due.is("38 two", x.two(63, 0), x.joy(-1));
        Due.is("40 years", x.years(1, -1), x.joy(-1));
        Due.is("42 book", x.book(1, 6), 0);
        Due.is("44 many", x.many(1), 0);
        Due.is("45 round", x.round(1, 0), -1);
        Due.is("58 in the book", x.write(63) * 100 + x.status(3), 663);
        Due.is("58 rooms", x.status(4), 30);
        Due.is("58 heads", x.status(5), 36);
        Due.is("46 kept", x.kept(1, 5), 0);
        Due.is("52 year", x.year(), joy - 780);
        Due.is("52 the last inn", x.innOf(5, 0), 49);
        EverybodyHasTheBook late = Due.of("inn 50 9 0; goer 5 5 0; goer 0 1 0; goer 0 1 0; goer 0 1 0; goer 0 1 0; goer 3 3 0");
        Due.is("23 the first of six is the last", late.sleeps(0, 0), 2);
        Due.is("23 the last of six is ahead of it", late.sleeps(5, 0), 3);
    }

    private static void crowd() {
        EverybodyHasTheBook x = Due.of("inn 80 1 30; inn 60 1 10 said 90;"
            + "goer 0 1 0; goer 1 2 0; goer 2 4 50; goer 3 8 0; goer 4 16 1; goer 5 30 0");
        Due.is("29 booked and all under it", x.crowd(1), 2 + 16 + 30);
        Due.is("29 against", x.crowd(0), 4);
        x.letter(0, 91);
        Due.is("29 lettered go by letters", x.crowd(0), 4 + 16);
        x.age(45);
        Due.is("29 of several the first", x.crowd(0), 2 + 4 + 16 + 30);
        Due.is("29 none", x.crowd(1), 0);
        Due.is("29 inn 2", x.crowd(2), -2);
        Due.is("29 inn -1", x.crowd(-1), -2);
    }

    private static void lean() {
        EverybodyHasTheBook x = Due.of("inn 60 1 30; inn 60 1 10");
        Due.is("30 no letters", x.lean(0), -1000005);
        x.letter(0, 50);
        Due.is("30 one", x.lean(0), -10);
        x.letter(0, 81);
        Due.is("30 cut", x.lean(0), 5);
        x.change(0, 0, 0);
        Due.is("30 of good, not of base", x.lean(0), 65);
        Due.is("30 inn 2", x.lean(2), -1000002);
        Due.is("30 inn -1", x.lean(-1), -1000002);
        Due.is("30 bad told", x.status(12), 2);
        Due.is("30 stuck told", x.status(15), 1);
    }

    private static void truest() {
        EverybodyHasTheBook x = new EverybodyHasTheBook();
        Due.is("31 no inns", x.truest(), -5);
        Due.is("31 stuck told", x.status(15), 1);
        x.inn(10, 1, 99);
        Due.is("31 the one", x.truest(), 0);
        x.inn(60, 1, 20);
        x.inn(80, 1, 40);
        Due.is("31 of several the first", x.truest(), 1);
        x.change(2, 1, 39);
        Due.is("31 the greatest", x.truest(), 2);
        x.change(0, 1, 0);
        x.change(0, 0, 100);
        Due.is("31 good as it is now", x.truest(), 0);
    }

    private static void oldest() {
        EverybodyHasTheBook x = Due.of("inn 60 1 30; inn 60 1 10; inn 60 1 10; inn 0 1 1");
        Due.is("32 none is in it", x.oldest(), -1);
        Due.is("32 none refused", x.status(12) + x.status(15), 0);
        x.say(3, 0);
        Due.is("32 as far as 0", x.oldest(), 3);
        x.say(1, 50);
        x.say(2, 70);
        Due.is("32 of several the first, either side", x.oldest(), 1);
        x.say(2, 71);
        Due.is("32 farthest above", x.oldest(), 2);
        x.say(1, 48);
        Due.is("32 farthest below", x.oldest(), 1);
        x.age(30);
        Due.is("32 whatever the age", x.oldest(), 1);
        x.say(0, 0);
        Due.is("32 the first inn", x.oldest(), 0);
        x.say(0, -1);
        x.change(1, 0, 49);
        Due.is("32 of good, not of base", x.oldest(), 2);
    }

    private static void enough() {
        EverybodyHasTheBook x = Due.of("inn 50 3 10; inn 50 9 10; goer 0 5 0; goer 3 14 0");
        Due.is("33 one more than come", x.enough(0), 20);
        x.heads(1, 15);
        Due.is("33 all come", x.enough(0), -1);
        Due.is("33 the second has the rest", x.enough(1), 18);
        x.heads(0, 2);
        x.heads(1, 1);
        Due.is("33 nobody comes", x.enough(1), 1);
        Due.is("33 four", x.enough(0), 4);
        Due.is("33 rooms stay", x.innOf(0, 2), 3);
        Due.is("33 inn 2", x.enough(2), -2);
        Due.is("33 inn -1", x.enough(-1), -2);
        Due.is("33 none is no refusal", x.status(12), 2);
    }

    private static void better() {
        EverybodyHasTheBook x = Due.of("inn 40 9 10; inn 90 9 40; goer 0 2 0; goer 3 3 0");
        Due.is("34 own", x.better(0), 3);
        Due.is("34 kind stays", x.goerOf(0, 0), 0);
        x.write(2);
        Due.is("34 of several the first", x.better(0), 1);
        x.write(1);
        Due.is("34 against shuns the told one", x.better(0), 2);
        Due.is("34 of own and against the first", x.better(1), 2);
        x.change(1, 1, 0);
        Due.is("34 goer", x.better(1), 0);
        x.change(1, 1, 40);
        x.letter(1, 95);
        x.letter(1, 95);
        x.write(0);
        Due.is("34 letters do, too, but own is ahead", x.better(0), 3);
        EverybodyHasTheBook late = Due.of("inn 90 2 0; inn 90 9 0; goer 1 1 0; goer 1 2 0");
        Due.is("34 late ones find the quiet one", late.better(0), 5);
        Due.is("34 goer 2", x.better(2), -2);
        Due.is("34 goer -1", x.better(-1), -2);
        Due.is("34 refused", x.status(12), 2);
        EverybodyHasTheBook sad = Due.of("inn 40 9 60; inn 90 9 95; goer 0 2 0");
        Due.is("34 the least sad", sad.better(0), 3);
        Due.is("34 out anyway", Due.of("goer 3 2 0").better(0), 0);
        EverybodyHasTheBook more = Due.of("inn 40 9 0 said 50; inn 100 9 51; inn 90 9 60; goer 0 2 2");
        Due.is("34 a as it is: 48 or 49", more.better(0), 2);
        EverybodyHasTheBook letters = Due.of("inn 40 9 0; inn 60 9 0; goer 0 2 1; letter 1 5");
        letters.change(1, 1, 90);
        letters.change(1, 0, 100);
        letters.change(0, 0, 0);
        Due.is("34 own ones alone see it", letters.better(0), 3);
        letters.change(0, 1, 99);
        Due.is("34 by price", letters.better(0), 0);
    }

    private static void trust() {
        EverybodyHasTheBook x = Due.of("inn 80 1 70; inn 60 1 10 said 90; inn 60 1 10 said 41");
        Due.is("35 no booked ones", x.trust(0), -1);
        x.goer(0, 1, 0);
        x.goer(3, 1, 0);
        Due.is("35 none under booked", x.trust(0), -1);
        x.goer(1, 1, 0);
        Due.is("35 till it says nothing", x.trust(1), 44);
        Due.is("35 the first for ever", x.trust(0), 99);
        Due.is("35 never", x.trust(2), -1);
        x.goer(2, 1, 0);
        Due.is("35 against by the price", x.trust(1), 44);
        x.change(0, 1, 45);
        Due.is("35 the greatest of several", x.trust(1), 44);
        x.goer(4, 1, 1);
        x.letter(2, 1);
        Due.is("35 by letters", x.trust(2), 99);
        x.say(0, 41);
        x.say(1, 40);
        EverybodyHasTheBook young = Due.of("inn 80 1 70; inn 60 1 10 said 1; goer 1 1 0");
        Due.is("35 as long as it is new", young.trust(1), 0);
        EverybodyHasTheBook only = Due.of("inn 80 1 45; inn 60 1 10 said 90; goer 2 1 5");
        Due.is("35 against, less a: 85 - 2 age > 55", only.trust(1), 14);
        only.age(50);
        Due.is("35 whatever the age is", only.trust(1), 14);
        Due.is("35 age stays", only.status(2), 50);
        Due.is("35 inn 3", x.trust(3), -2);
        Due.is("35 inn -1", x.trust(-1), -2);
        Due.is("35 none is no refusal", x.status(12), 2);
    }

    private static void share() {
        EverybodyHasTheBook x = Due.of("inn 50 3 10; inn 70 2 10; goer 0 3 0; goer 3 3 0");
        Due.is("36 none of the first", x.share(0), 0);
        Due.is("36 cut", x.share(1), 66);
        x.heads(1, 2);
        Due.is("36 all", x.share(1), 100);
        Due.is("36 goer 2", x.share(2), -2);
        Due.is("36 goer -1", x.share(-1), -2);
        x.heads(1, 1);
        Due.is("36 a single one", x.share(1), 100);
        EverybodyHasTheBook none = Due.of("goer 0 3 0");
        Due.is("36 bad ahead of stuck", none.share(1), -2);
        Due.is("36 no inns", none.share(0), -5);
        Due.is("36 stuck told", none.status(15), 1);
    }

    private static void nine() {
        EverybodyHasTheBook x = Due.of("inn 60 1 30; letter 0 50; letter 0 81; inn 9 1 1");
        Due.is("37 one", x.nine(0, 1, 100), 77 - 60);
        Due.is("37 forty", x.nine(0, 40, 0), 3 - 60);
        Due.is("37 there were none", x.nine(1, 3, 10), 1);
        Due.is("37 n 0", x.nine(0, 0, 5), -1000002);
        Due.is("37 n 41", x.nine(0, 41, 5), -1000002);
        Due.is("37 v -1", x.nine(0, 1, -1), -1000002);
        Due.is("37 v 101", x.nine(0, 1, 101), -1000002);
        Due.is("37 inn 2", x.nine(2, 1, 5), -1000002);
        Due.is("37 inn -1", x.nine(-1, 1, 5), -1000002);
        for (int i = 0; i < 99; i++) {
            x.letter(1, 50);
        }
        Due.is("37 however many there are then", x.nine(1, 40, 100), 8950 / 139 - 9);
        Due.is("37 none came", x.innOf(1, 5), 99);
        Due.is("37 refused", x.status(12), 6);
    }

    private static void two() {
        EverybodyHasTheBook x = Due.of("inn 50 9 10; inn 70 9 10; goer 1 5 0");
        Due.is("38 both the one", x.two(2, 2), 300);
        Due.is("38 the smaller half has the other", x.two(2, 0), 3 * 60 + 2 * 40);
        Due.is("38 the other way", x.two(0, 2), 2 * 60 + 3 * 40);
        x.goer(0, 4, 0);
        x.goer(3, 4, 0);
        Due.is("38 goers and own have no book", x.two(0, 2), 200 + 3 * 40 + 2 * 60 - 40 + 4 * 60 - 0);
        EverybodyHasTheBook row = Due.of("inn 50 1 0; inn 40 1 0; inn 30 1 0; inn 20 1 0;"
            + "goer 5 2 0; goer 1 2 0");
        Due.is("38 all beds are full", row.two(8, 4), (50 + 40 + 30 + 20) - 80);
        EverybodyHasTheBook behind = Due.of("inn 10 1 0; inn 90 4 0; goer 1 2 0; goer 1 2 0");
        Due.is("38 just behind the rest of theirs", behind.two(2, 0), (10 - 20) + 3 * 90);
        EverybodyHasTheBook aged = Due.of("inn 10 9 0 said 100; inn 90 9 0 said 0; age 99; goer 1 2 0; goer 5 2 0");
        Due.is("38 written now", aged.two(2, 2), 4 * 90);
        Due.is("38 the book stays", aged.status(3) * 100 + aged.status(2), 399);
        Due.is("38 inns 4", x.two(4, 0), -1000002);
        Due.is("38 inns -1", x.two(-1, 0), -1000002);
        Due.is("38 others 4", x.two(0, 4), -1000002);
        Due.is("38 others -1", x.two(0, -1), -1000002);
        Due.is("38 refused", x.status(12), 4);
    }

    private static void judge() {
        EverybodyHasTheBook x = crowded();
        int[] beds = {0, 0, 3, 1, 0, 1};
        x.row(0, 0, 7);
        Due.is("39 the first that isn't so", x.judge(0), 2);
        for (int i = 0; i < 6; i++) {
            x.set(0, i, beds[i]);
        }
        Due.is("39 all is so", x.judge(0), -1);
        x.set(0, 6, 50);
        Due.is("39 what is behind doesn't count", x.judge(0), -1);
        for (int i = 5; i >= 0; i--) {
            x.set(0, i, 9);
            Due.is("39 otherwise at " + i, x.judge(0), i);
        }
        x.row(1, 3, 6);
        x.set(1, 0, 1L << 32);
        Due.is("39 the whole of a long", x.judge(1), 0);
        x.row(2, 1, 5);
        Due.is("39 fewer elements", x.judge(2), -2);
        x.show(3, 0);
        Due.is("39 a goer", x.judge(3), -3);
        Due.is("39 nothing", x.judge(4), -4);
        Due.is("39 shelf 8", x.judge(8), -2);
        Due.is("39 shelf -1", x.judge(-1), -2);
        Due.is("39 bad told", x.status(12), 3);
        EverybodyHasTheBook none = new EverybodyHasTheBook();
        none.row(0, 0, 0);
        Due.is("39 nobody", none.judge(0), -1);
    }
}
