/** Promises 40 to 51: what comes of YEARS, in thought. */
public final class YearsTest {
    public static void main(String[] args) {
        years();
        yearsOfAQuietInn();
        thenAndTheLetters();
        book();
        written();
        many();
        round();
        roundOfSeveralYears();
        kept();
        called();
        spoilt();
        spoiltLate();
        bears();
        recovers();
        dearest();
        nothingIsChanged();
        Due.end();
    }

    /** GOOD 50 44 38 32, PRICE 20 26 33 42, joy 20, -4, -30. */
    private static EverybodyHasTheBook spoiltOne() {
        return Due.of("inn 50 2 20; goer 0 2 0");
    }

    private static void years() {
        EverybodyHasTheBook x = spoiltOne();
        Due.is("40 one", x.years(1, -1), 20);
        Due.is("40 two", x.years(2, -1), 16);
        Due.is("40 three", x.years(3, -1), -14);
        Due.is("40 of the one", x.years(3, 0), -14);
        Due.is("40 n 0", x.years(0, -1), -1000002);
        Due.is("40 n 13", x.years(13, -1), -1000002);
        Due.is("40 goer 1", x.years(1, 1), -1000002);
        Due.is("40 goer -2", x.years(1, -2), -1000002);
        x.goer(5, 3, 0);
        Due.is("40 late ones are out", x.years(3, 1), -270);
        Due.is("40 of all", x.years(3, -1), -284);
        Due.is("40 of the first", x.years(3, 0), -14);
        int joy = x.years(12, -1);
        Due.is("40 twelve, as in truth", joy, x.goes(12));
        Due.is("41 good", spoiltOne().then(1, 0, 0), 44);
        Due.is("41 price", spoiltOne().then(1, 0, 1), 26);
        Due.is("41 good of three", spoiltOne().then(3, 0, 0), 32);
        Due.is("41 price of three", spoiltOne().then(3, 0, 1), 42);
        Due.is("41 taken in three", spoiltOne().then(3, 0, 2), 40 + 52 + 66);
        Due.is("41 good 0 at least", spoiltOne().then(9, 0, 0), 0);
        Due.is("41 price 99 at most", spoiltOne().then(9, 0, 1), 99);
        int[][] bad = {{0, 0, 0}, {13, 0, 0}, {1, 1, 0}, {1, -1, 0}, {1, 0, -1}, {1, 0, 3}};
        for (int[] one : bad) {
            Due.is("41 bad", spoiltOne().then(one[0], one[1], one[2]), -2);
        }
    }

    private static void yearsOfAQuietInn() {
        EverybodyHasTheBook x = Due.of("inn 50 4 2; goer 0 1 0");
        x.change(0, 0, 45);
        Due.is("41 3 more", x.then(1, 0, 0), 48);
        Due.is("41 as far as base", x.then(2, 0, 0), 50);
        Due.is("41 no farther", x.then(12, 0, 0), 50);
        Due.is("41 1 less", x.then(1, 0, 1), 1);
        Due.is("41 0 at least", x.then(12, 0, 1), 0);
        Due.is("41 taken", x.then(12, 0, 2), 3);
        Due.is("40 joy", x.years(3, -1), 43 + 47 + 50);
        x.change(0, 0, 70);
        Due.is("41 one above base stays", x.then(12, 0, 0), 70);
        x.heads(0, 2);
        x.change(0, 0, 45);
        Due.is("41 half full stays", x.then(12, 0, 0), 45);
        Due.is("41 price, too", x.then(12, 0, 1), 2);
        Due.is("41 taken", x.then(12, 0, 2), 48);
    }

    private static void thenAndTheLetters() {
        EverybodyHasTheBook x = Due.of("inn 50 5 2 said 51; inn 60 5 2 said 60; inn 9 5 2 said 10; inn 50 5 2;"
            + "goer 0 20 0; inn 9 5 90 said 99");
        x.year();
        int[] letters = {40, 60, 0, 50, 0};
        int[] many = {1, 1, 1, 1, 0};
        for (int i = 0; i < 5; i++) {
            Due.is("52 a letter of " + i, x.innOf(i, 6), letters[i]);
            Due.is("52 if heads are in it " + i, x.innOf(i, 5), many[i]);
        }
        EverybodyHasTheBook y = Due.of("inn 50 2 20 said 60; goer 0 2 0; age 40");
        y.year();
        Due.is("52 whatever the age, ahead of the wear", y.innOf(0, 6), 40);
        for (int i = 0; i < 98; i++) {
            y.letter(0, 1);
        }
        y.year();
        Due.is("52 fewer than 99", y.innOf(0, 5), 99);
        Due.is("52 no letter comes", y.innOf(0, 6), 138);
    }

    /** Without the book all are in inn 0; inns 1 and 2 are the good ones. */
    private static EverybodyHasTheBook badFirst() {
        return Due.of("inn 10 5 50; inn 90 2 10; inn 90 2 10; goer 1 4 0");
    }

    private static void book() {
        EverybodyHasTheBook x = badFirst();
        Due.is("42 none", x.book(1, 0), 0);
        Due.is("42 one, the least", x.book(1, 1), 2);
        Due.is("42 two", x.book(1, 2), 6);
        Due.is("42 more than there are", x.book(1, 6), 6);
        Due.is("42 k 7", x.book(1, 7), -2);
        Due.is("42 k -1", x.book(1, -1), -2);
        Due.is("42 n 0", x.book(0, 1), -2);
        Due.is("42 n 13", x.book(13, 1), -2);
        Due.is("42 refused", x.status(12), 4);
        x.write(1);
        x.age(50);
        Due.is("42 written now", x.book(1, 2), 6);
        Due.is("42 the book stays", x.status(3) * 100 + x.status(2), 150);
        x.heads(0, 1);
        Due.is("42 one head", x.book(1, 3), 2);
        EverybodyHasTheBook same = Due.of("inn 10 5 50; goer 0 4 0");
        Due.is("42 all the same", same.book(12, 1), 0);
        EverybodyHasTheBook first = Due.of("inn 30 9 90; inn 50 9 0 said 20; goer 2 1 20");
        Due.is("42 better none than the first", first.book(1, 6), 0);
        Due.is("42 joy by none", first.written(1, 0), 50);
        first.change(0, 1, 0);
        first.change(0, 0, 10);
        Due.is("42 the first", first.book(1, 6), 1);
        EverybodyHasTheBook slow = Due.of("inn 50 4 0; inn 70 1 0; goer 1 1 0");
        Due.is("42 in one year: 50 or 50", slow.book(1, 6), 0);
        slow.change(1, 0, 71);
        Due.is("42 in one year: 50 or 51", slow.book(1, 6), 2);
        Due.is("42 in two years: 100 or 51 and 44", slow.book(2, 6), 0);
    }

    private static void written() {
        EverybodyHasTheBook x = badFirst();
        x.write(4);
        x.age(99);
        Due.is("43 none", x.written(1, 0), -160);
        Due.is("43 one", x.written(1, 2), 2 * 60 - 80);
        Due.is("43 two", x.written(1, 6), 240);
        Due.is("43 the first", x.written(1, 1), -160);
        Due.is("43 in two years", x.written(2, 6), 240 + 4 * (84 - 13 - 20));
        Due.is("43 inns 8", x.written(1, 8), -1000002);
        Due.is("43 inns -1", x.written(1, -1), -1000002);
        Due.is("43 n 0", x.written(0, 1), -1000002);
        Due.is("43 n 13", x.written(13, 1), -1000002);
        Due.is("43 the book stays", x.status(3) * 100 + x.status(2), 499);
        Due.is("43 refused", x.status(12), 4);
    }

    private static void many() {
        EverybodyHasTheBook x = badFirst();
        Due.is("44 two", x.many(1), 2);
        x.heads(0, 1);
        Due.is("44 one", x.many(1), 1);
        Due.is("44 n 0", x.many(0), -2);
        Due.is("44 n 13", x.many(13), -2);
        Due.is("44 none", Due.of("inn 10 5 50; goer 0 4 0").many(12), 0);
        Due.is("44 no inns", new EverybodyHasTheBook().many(1), 0);
        // {0, 1} and {2} alike send the one to inn 2; {0}, {1} and none don't
        EverybodyHasTheBook fewest = Due.of("inn 50 1 30; inn 40 2 40; inn 90 1 40; goer 2 1 0");
        Due.is("44 the least as bits has two", fewest.book(1, 6), 3);
        Due.is("44 the one of one", fewest.book(1, 1), 4);
        Due.is("44 the fewest", fewest.many(1), 1);
    }

    private static void round() {
        EverybodyHasTheBook x = badFirst();
        Due.is("45 joy", x.round(1, -1), 40);
        Due.is("45 of several the first", x.round(1, 0), 1);
        Due.is("45 n 0", x.round(0, -1), -1000002);
        Due.is("45 n 4", x.round(4, -1), -1000002);
        Due.is("45 i 1", x.round(1, 1), -1000002);
        Due.is("45 i -2", x.round(1, -2), -1000002);
        Due.is("45 i 3", x.round(3, 3), -1000002);
        Due.is("45 refused", x.status(12), 5);
        x.write(6);
        Due.is("45 none ahead of inns", x.round(1, 0), -1);
        Due.is("45 as it is", x.round(1, -1), 240);
        x.age(45);
        Due.is("45 age stays as it is", x.round(1, -1), -160);
        EverybodyHasTheBook worse = Due.of("inn 30 9 90; inn 50 9 0 said 20; goer 1 1 0");
        Due.is("45 better none than the first", worse.round(1, 0), -1);
        Due.is("45 joy by none", worse.round(1, -1), 50);
        EverybodyHasTheBook first = Due.of("inn 50 9 0; inn 10 9 50 said 20; goer 1 1 0");
        Due.is("45 to the first inn", first.round(1, 0), 0);
        Due.is("45 joy by the first", first.round(1, -1), 50);
        EverybodyHasTheBook none = Due.of("goer 1 2 0");
        Due.is("45 no inns", none.round(3, -1), -180);
        Due.is("45 no inns, the last", none.round(3, 2), -1);
    }

    private static void roundOfSeveralYears() {
        EverybodyHasTheBook x = Due.of("inn 10 20 50; inn 90 20 10; goer 1 4 0");
        Due.is("45 two years", x.round(2, -1), 4 * 80 + 4 * 81);
        Due.is("45 into the book", x.round(2, 0), 1);
        Due.is("45 it stays there", x.round(2, 1), -1);
        Due.is("45 three years", x.round(3, -1), 4 * (80 + 81 + 82));
        EverybodyHasTheBook full = Due.of("inn 40 9 0; inn 90 1 0; inn 89 1 0; goer 1 1 0");
        // the book is a year older in the second year: 89 - 2 isn't 90 - 2, so inn 2 has to be first
        Due.is("45 the first year", full.round(2, 0), 2);
        Due.is("45 the second year", full.round(2, 1), 1);
        Due.is("45 both", full.round(2, -1), 69 + 70);
        // then inn 1 has worn to 84, and what is said of it falls behind inn 2
        Due.is("45 the first of three", full.round(3, 0), 2);
        Due.is("45 the second of three", full.round(3, 1), 1);
        Due.is("45 the third of three", full.round(3, 2), 1);
        Due.is("45 all three", full.round(3, -1), 69 + 70 + 66);
        Due.is("45 the book stays", full.status(3), 0);
    }

    private static void kept() {
        EverybodyHasTheBook x = Due.of("inn 50 9 0; inn 80 2 0 said 80; goer 1 2 0; goer 3 2 0");
        Due.is("46 own ones alone count", x.kept(1, 1), 120 - 100);
        Due.is("46 not in the book", x.kept(1, 0), -1000005);
        Due.is("46 stuck told", x.status(15), 1);
        Due.is("46 n 0", x.kept(0, 1), -1000002);
        Due.is("46 n 13, ahead of stuck", x.kept(13, 0), -1000002);
        Due.is("46 inn 2", x.kept(1, 2), -1000002);
        Due.is("46 inn -1", x.kept(1, -1), -1000002);
        Due.is("46 bad told", x.status(12), 4);
        // as it is: inn 1 is full each year; else the same by own ones alone
        Due.is("46 two years", x.kept(2, 1), 20 + 2 * (74 - 1 - 20 - 50));
        Due.is("46 it stays in the book", x.innOf(1, 4), 80);
        x.say(0, 0);
        Due.is("46 in the book with 0", x.kept(1, 0), 0);
        EverybodyHasTheBook company = Due.of("inn 50 9 0; inn 80 2 0 said 80; goer 3 1 0; goer 1 1 0");
        Due.is("46 own ones have it to themselves", company.kept(1, 1), 80 - 60);
        // not in the book, inn 1 is what those against it want: its one bed, so own ones are out of it
        EverybodyHasTheBook against = Due.of("inn 50 9 20; inn 80 1 0 said 1; goer 3 1 0; goer 2 1 0");
        Due.is("46 own ones come first", against.kept(1, 1), 0);
        EverybodyHasTheBook behind = Due.of("inn 50 9 20; inn 80 1 0 said 1; goer 2 1 0; goer 3 1 0");
        Due.is("46 against are let in", behind.kept(1, 1), 30 - 60);
    }

    private static void called() {
        EverybodyHasTheBook x = Due.of("inn 50 9 10; inn 80 2 0 said 80; goer 1 2 0");
        Due.is("47 to the other one", x.called(1, 0, 100), 80 - 120);
        Due.is("47 of several the first", x.called(1, 0, 80), -40);
        Due.is("47 not enough", x.called(1, 0, 79), 0);
        Due.is("47 0 of the best one", x.called(1, 1, 0), -40);
        Due.is("47 as it is", x.called(12, 1, 80), 0);
        x.age(1);
        Due.is("47 age as it is", x.called(1, 0, 80), -40);
        Due.is("47 v -1", x.called(1, 0, -1), -1000002);
        Due.is("47 v 101", x.called(1, 0, 101), -1000002);
        Due.is("47 n 0", x.called(0, 0, 1), -1000002);
        Due.is("47 n 13", x.called(13, 0, 1), -1000002);
        Due.is("47 inn 2", x.called(1, 2, 1), -1000002);
        Due.is("47 inn -1", x.called(1, -1, 1), -1000002);
        Due.is("47 nothing is said", x.innOf(0, 4), -1);
        Due.is("47 refused", x.status(12), 6);
    }

    private static void spoilt() {
        EverybodyHasTheBook x = spoiltOne();
        Due.is("48 at once", x.spoilt(0, 100), 1);
        Due.is("48 50", x.spoilt(0, 50), 1);
        Due.is("48 45", x.spoilt(0, 45), 1);
        Due.is("48 below, not at", x.spoilt(0, 44), 2);
        Due.is("48 38", x.spoilt(0, 38), 3);
        Due.is("48 1", x.spoilt(0, 1), 9);
        Due.is("48 never below 0", x.spoilt(0, 0), -1);
        Due.is("48 g 101", x.spoilt(0, 101), -2);
        Due.is("48 g -1", x.spoilt(0, -1), -2);
        Due.is("48 inn 1", x.spoilt(1, 1), -2);
        Due.is("48 inn -1", x.spoilt(-1, 1), -2);
        Due.is("48 none is no refusal", x.status(12), 4);
    }

    /** AGAINST leave the aging book for inn 0, which grows cheaper, as soon as 3 times the years reach its PRICE. */
    private static void spoiltLate() {
        EverybodyHasTheBook x = Due.of("inn 50 1 87; inn 100 20 0 said 100; goer 2 1 0");
        Due.is("48 the thirtieth", x.spoilt(0, 50), 30);
        x.change(0, 1, 88);
        Due.is("48 the thirty-first is too late", x.spoilt(0, 50), -1);
    }

    private static void bears() {
        EverybodyHasTheBook x = Due.of("inn 50 5 20; goer 0 2 0");
        Due.is("49 not full", x.bears(0, 0, 1, 45), 4);
        Due.is("49 full once", x.bears(0, 0, 1, 44), 30);
        Due.is("49 at least", x.bears(0, 0, 1, 50), 4);
        Due.is("49 none", x.bears(0, 0, 1, 51), -1);
        Due.is("49 full twice", x.bears(0, 0, 2, 44), 4);
        Due.is("49 full twice will do", x.bears(0, 0, 2, 38), 30);
        Due.is("49 0", x.bears(0, 0, 12, 0), 30);
        x.change(0, 0, 40);
        Due.is("49 a quiet one mends", x.bears(0, 0, 1, 43), 2);
        Due.is("49 behind each year", x.bears(0, 0, 2, 46), -1);
        Due.is("49 behind each of two", x.bears(0, 0, 2, 43), 2);
        EverybodyHasTheBook small = Due.of("inn 50 2 20; goer 0 9 0");
        Due.is("49 a single one", small.bears(0, 0, 12, 45), 1);
        Due.is("49 heads stay", x.goerOf(0, 1), 2);
        int[][] bad = {{1, 0, 1, 1}, {-1, 0, 1, 1}, {0, 1, 1, 1}, {0, -1, 1, 1}, {0, 0, 0, 1}, {0, 0, 13, 1},
            {0, 0, 1, -1}, {0, 0, 1, 101}};
        for (int[] one : bad) {
            Due.is("49 bad", x.bears(one[0], one[1], one[2], one[3]), -2);
        }
        Due.is("49 none is no refusal", x.status(12), 8);
        x.goer(5, 1, 0);
        x.inn(50, 5, 99);
        Due.is("49 of another goer", x.bears(1, 0, 1, 40), 2);
    }

    private static void recovers() {
        EverybodyHasTheBook x = Due.of("inn 90 5 0; inn 91 5 0; inn 50 2 1");
        Due.is("50 it is base", x.recovers(0), 1);
        x.change(0, 0, 87);
        Due.is("50 3 a year", x.recovers(0), 1);
        x.change(0, 0, 86);
        Due.is("50 4 less", x.recovers(0), 2);
        x.change(0, 0, 0);
        Due.is("50 the thirtieth", x.recovers(0), 30);
        x.change(1, 0, 0);
        Due.is("50 the thirty-first is too late", x.recovers(1), -1);
        x.goer(1, 2, 0);
        x.change(0, 0, 89);
        x.write(4);
        Due.is("50 nothing in the book", x.recovers(2), 1);
        Due.is("50 the book stays", x.status(3), 4);
        x.change(0, 1, 99);
        x.goer(0, 2, 0);
        Due.is("50 by the price", x.recovers(2), 1);
        x.change(1, 1, 99);
        Due.is("50 never while full", x.recovers(2), -1);
        // all that are booked are in inn 0, as long as nothing stands in the book
        EverybodyHasTheBook booked = Due.of("inn 50 9 9; inn 60 1 0; goer 1 1 0; write 1");
        booked.change(0, 0, 49);
        booked.change(1, 0, 59);
        Due.is("50 the second is quiet", booked.recovers(1), 1);
        EverybodyHasTheBook turned = Due.of("inn 60 1 0; inn 50 9 9; goer 2 1 99; write 0");
        turned.change(0, 0, 59);
        turned.change(1, 1, 99);
        Due.is("50 against go there by the price", turned.recovers(0), -1);
        Due.is("50 they would not, by the book", turned.then(1, 0, 0), 60);
        Due.is("50 above base", Due.of("inn 5 1 1; goer 0 1 0").recovers(0), -1);
        EverybodyHasTheBook above = Due.of("inn 5 1 1; goer 0 1 0");
        above.change(0, 0, 11);
        Due.is("50 full, at base yet", above.recovers(0), 1);
        Due.is("50 inn 3", x.recovers(3), -2);
        Due.is("50 inn -1", x.recovers(-1), -2);
        Due.is("50 none is no refusal", x.status(12), 2);
    }

    private static void dearest() {
        EverybodyHasTheBook x = Due.of("inn 50 2 30; inn 50 9 50; goer 0 2 0");
        Due.is("51 as dear as the other one, being first", x.dearest(1, 0), 50);
        Due.is("51 cheaper, being second", x.dearest(1, 1), 29);
        Due.is("51 price stays", x.innOf(0, 3), 30);
        EverybodyHasTheBook alone = Due.of("inn 50 2 30; goer 0 1 0");
        Due.is("51 the dearest", alone.dearest(12, 0), 99);
        EverybodyHasTheBook none = Due.of("inn 50 2 30");
        Due.is("51 the least of several", none.dearest(12, 0), 0);
        // full at 77 in both years takes 77 + 97; 78 .. 99 take 99 in the second
        EverybodyHasTheBook full = Due.of("inn 50 1 5; goer 0 1 0");
        Due.is("51 in two years", full.dearest(2, 0), 99);
        Due.is("51 n 0", x.dearest(0, 0), -2);
        Due.is("51 n 13", x.dearest(13, 0), -2);
        Due.is("51 inn 2", x.dearest(1, 2), -2);
        Due.is("51 inn -1", x.dearest(1, -1), -2);
        Due.is("51 refused", x.status(12), 4);
        // from 39 on the second year is dearer than the other one: 38 + 48 against 49 (and none)
        EverybodyHasTheBook raised = Due.of("inn 50 1 5; inn 50 9 49; goer 0 1 0");
        Due.is("51 a full one grows dear", raised.dearest(2, 0), 38);
    }

    private static void nothingIsChanged() {
        EverybodyHasTheBook x = Due.of("inn 50 2 20 said 60; inn 70 9 30; goer 0 2 0; goer 3 3 0; goer 1 1 1; age 4; letter 0 9");
        x.seed(77);
        x.years(12, 0);
        x.then(12, 0, 0);
        x.book(12, 6);
        x.written(12, 1);
        x.many(2);
        x.round(3, 0);
        x.kept(12, 0);
        x.called(12, 1, 99);
        x.spoilt(0, 1);
        x.bears(0, 0, 12, 3);
        x.recovers(0);
        x.dearest(12, 1);
        x.two(1, 2);
        x.better(1);
        x.enough(1);
        x.trust(0);
        int[][] inns = {{50, 50, 2, 20, 60, 1, 9}, {70, 70, 9, 30, -1, 0, 0}};
        for (int i = 0; i < 2; i++) {
            for (int what = 0; what < 7; what++) {
                Due.is("3 in thought, inn " + i + " " + what, x.innOf(i, what), inns[i][what]);
            }
        }
        int[][] goers = {{0, 2, 0}, {3, 3, 0}, {1, 1, 1}};
        for (int g = 0; g < 3; g++) {
            for (int what = 0; what < 3; what++) {
                Due.is("3 in thought, goer " + g + " " + what, x.goerOf(g, what), goers[g][what]);
            }
        }
        int[] status = {2, 3, 4, 1, 11, 6, 0, 0, 77, 0, -1, -1, 0, 0, 0, 0, 0};
        for (int what = 0; what < status.length; what++) {
            Due.is("3 in thought, status " + what, x.status(what), status[what]);
        }
    }
}
