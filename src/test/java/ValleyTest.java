/** Promises 9 to 21: INNS, GOERS, the BOOK, THE TAPE. */
public final class ValleyTest {
    public static void main(String[] args) {
        inn();
        goer();
        change();
        say();
        write();
        letter();
        age();
        heads();
        feed();
        wipe();
        valley();
        valleyComesToWhatThereIs();
        valleyFaults();
        valleyIsAllOrNothing();
        innOf();
        goerOf();
        Due.end();
    }

    private static void inn() {
        EverybodyHasTheBook x = new EverybodyHasTheBook();
        int[][] bad = {{-1, 1, 0}, {101, 1, 0}, {0, 0, 0}, {0, 21, 0}, {0, 1, -1}, {0, 1, 100}};
        for (int[] one : bad) {
            Due.is("9 " + java.util.Arrays.toString(one), x.inn(one[0], one[1], one[2]), -2);
        }
        Due.is("9 least", x.inn(0, 1, 0), 0);
        Due.is("9 most", x.inn(100, 20, 99), 1);
        for (int i = 2; i < 6; i++) {
            Due.is("9 number", x.inn(50, 5, 5), i);
        }
        Due.is("9 full", x.inn(50, 5, 5), -6);
        Due.is("9 bad ahead of full", x.inn(50, 21, 5), -2);
        Due.is("9 six", x.status(0), 6);
        Due.is("9 bad told", x.status(12), 7);
        Due.is("9 full told", x.status(16), 1);
        int[] due = {100, 100, 20, 99, -1, 0, 0};
        for (int what = 0; what < 7; what++) {
            Due.is("9 as told " + what, x.innOf(1, what), due[what]);
        }
    }

    private static void goer() {
        EverybodyHasTheBook x = new EverybodyHasTheBook();
        int[][] bad = {{-1, 1, 0}, {6, 1, 0}, {0, 0, 0}, {0, 31, 0}, {0, 1, -1}, {0, 1, 100}};
        for (int[] one : bad) {
            Due.is("10 " + java.util.Arrays.toString(one), x.goer(one[0], one[1], one[2]), -2);
        }
        Due.is("10 least", x.goer(0, 1, 0), 0);
        Due.is("10 most", x.goer(5, 30, 99), 1);
        for (int g = 2; g < 6; g++) {
            Due.is("10 number", x.goer(g, 5, 5), g);
        }
        Due.is("10 full", x.goer(0, 5, 5), -6);
        Due.is("10 bad ahead of full", x.goer(0, 0, 5), -2);
        Due.is("10 six", x.status(1), 6);
        Due.is("10 as told", x.goerOf(1, 2), 99);
        Due.is("10 full told", x.status(16), 1);
    }

    private static void change() {
        EverybodyHasTheBook x = Due.of("inn 90 4 40; inn 80 4 30");
        Due.is("11 good", x.change(1, 0, 100), 80);
        Due.is("11 good is", x.innOf(1, 0), 100);
        Due.is("11 base stays", x.innOf(1, 1), 80);
        Due.is("11 price", x.change(1, 1, 99), 30);
        Due.is("11 price is", x.innOf(1, 3), 99);
        Due.is("11 good 0", x.change(1, 0, 0), 100);
        Due.is("11 price 0", x.change(1, 1, 0), 99);
        Due.is("11 good 101", x.change(1, 0, 101), -2);
        Due.is("11 good -1", x.change(1, 0, -1), -2);
        Due.is("11 price 100", x.change(1, 1, 100), -2);
        Due.is("11 price -1", x.change(1, 1, -1), -2);
        Due.is("11 what 2", x.change(1, 2, 1), -2);
        Due.is("11 what -1", x.change(1, -1, 1), -2);
        Due.is("11 inn 2", x.change(2, 0, 1), -2);
        Due.is("11 inn -1", x.change(-1, 0, 1), -2);
        Due.is("11 refused", x.status(12), 8);
        Due.is("11 the other inn", x.innOf(0, 0), 90);
    }

    private static void say() {
        EverybodyHasTheBook x = Due.of("inn 90 4 40; inn 80 4 30");
        Due.is("12 it wasn't in", x.say(1, 100), -1);
        Due.is("12 said", x.innOf(1, 4), 100);
        Due.is("12 again", x.say(1, 0), 100);
        Due.is("12 in the book with 0", x.status(3), 2);
        Due.is("12 out of it", x.say(1, -1), 0);
        Due.is("12 the book is empty", x.status(3), 0);
        Due.is("12 v 101", x.say(1, 101), -2);
        Due.is("12 v -2", x.say(1, -2), -2);
        Due.is("12 inn 2", x.say(2, 1), -2);
        Due.is("12 inn -1", x.say(-1, 1), -2);
        Due.is("12 refused", x.status(12), 4);
        x.age(7);
        x.say(0, 5);
        Due.is("12 age stays", x.status(2), 7);
    }

    private static void write() {
        EverybodyHasTheBook x = Due.of("inn 90 4 40 said 3; inn 80 4 30 said 5; inn 60 1 1; age 9");
        x.change(1, 0, 70);
        Due.is("13 two", x.write(6), 2);
        Due.is("13 no others", x.innOf(0, 4), -1);
        Due.is("13 as good as it is", x.innOf(1, 4), 70);
        Due.is("13 comes into it", x.innOf(2, 4), 60);
        Due.is("13 age", x.status(2), 0);
        Due.is("13 all", x.write(7), 3);
        x.age(4);
        Due.is("13 too many bits", x.write(8), -2);
        Due.is("13 below 0", x.write(-1), -2);
        Due.is("13 age stays when refused", x.status(2), 4);
        Due.is("13 none", x.write(0), 0);
        Due.is("13 book is empty", x.status(3), 0);
        Due.is("13 age anew", x.status(2), 0);
        EverybodyHasTheBook none = new EverybodyHasTheBook();
        Due.is("13 no inns", none.write(0), 0);
        Due.is("13 no inns, one told", none.write(1), -2);
    }

    private static void letter() {
        EverybodyHasTheBook x = Due.of("inn 90 4 40; inn 80 4 30");
        Due.is("14 one", x.letter(1, 100), 1);
        Due.is("14 two", x.letter(1, 0), 2);
        Due.is("14 together", x.innOf(1, 6), 100);
        Due.is("14 many", x.innOf(1, 5), 2);
        Due.is("14 v 101", x.letter(1, 101), -2);
        Due.is("14 v -1", x.letter(1, -1), -2);
        Due.is("14 inn 2", x.letter(2, 1), -2);
        Due.is("14 inn -1", x.letter(-1, 1), -2);
        for (int i = 3; i <= 99; i++) {
            Due.is("14 up to 99", x.letter(1, 1), i);
        }
        Due.is("14 full", x.letter(1, 1), -6);
        Due.is("14 bad ahead of full", x.letter(1, 101), -2);
        Due.is("14 full changes nothing", x.innOf(1, 6), 197);
        Due.is("14 the other one", x.letter(0, 5), 1);
        Due.is("14 bad told", x.status(12), 5);
        Due.is("14 full told", x.status(16), 1);
    }

    private static void age() {
        EverybodyHasTheBook x = new EverybodyHasTheBook();
        Due.is("15 was 0", x.age(99), 0);
        Due.is("15 was 99", x.age(0), 99);
        Due.is("15 age 100", x.age(100), -2);
        Due.is("15 age -1", x.age(-1), -2);
        Due.is("15 stays", x.status(2), 0);
        Due.is("15 refused", x.status(12), 2);
    }

    private static void heads() {
        EverybodyHasTheBook x = Due.of("goer 1 9 4");
        Due.is("16 were 9", x.heads(0, 30), 9);
        Due.is("16 were 30", x.heads(0, 1), 30);
        Due.is("16 none", x.heads(0, 0), -2);
        Due.is("16 31", x.heads(0, 31), -2);
        Due.is("16 goer 1", x.heads(1, 1), -2);
        Due.is("16 goer -1", x.heads(-1, 1), -2);
        Due.is("16 they are 1", x.goerOf(0, 1), 1);
        Due.is("16 of all", x.status(5), 1);
        Due.is("16 refused", x.status(12), 4);
    }

    private static void feed() {
        EverybodyHasTheBook x = new EverybodyHasTheBook();
        Due.is("17 least", x.feed(0), 1);
        Due.is("17 most", x.feed(255), 2);
        Due.is("17 256", x.feed(256), -2);
        Due.is("17 -1", x.feed(-1), -2);
        for (int i = 3; i <= 250; i++) {
            Due.is("17 size", x.feed(32), i);
        }
        Due.is("17 full", x.feed(32), -6);
        Due.is("17 bad ahead of full", x.feed(256), -2);
        Due.is("17 size told", x.status(7), 250);
        Due.is("17 bad told", x.status(12), 3);
        Due.is("17 full told", x.status(16), 1);
    }

    private static void wipe() {
        EverybodyHasTheBook x = new EverybodyHasTheBook();
        Due.is("18 empty", x.wipe(), 0);
        Due.feed(x, "abc");
        Due.is("18 three", x.wipe(), 3);
        Due.is("18 empty again", x.status(7), 0);
        Due.is("18 the first again", x.feed(65), 1);
    }

    private static void valley() {
        EverybodyHasTheBook x = new EverybodyHasTheBook();
        Due.is("19 all statements", Due.valley(x,
            "inn 90 4 40 said 80; inn 0 1 0;goer 5 30 99;letter 1 7;age 12;goer 0 1 0;inn 100 20 99 said 0"), 7);
        int[][] inns = {{90, 90, 4, 40, 80, 0, 0}, {0, 0, 1, 0, -1, 1, 7}, {100, 100, 20, 99, 0, 0, 0}};
        for (int i = 0; i < 3; i++) {
            for (int what = 0; what < 7; what++) {
                Due.is("19 inn " + i + " " + what, x.innOf(i, what), inns[i][what]);
            }
        }
        Due.is("19 kind", x.goerOf(0, 0), 5);
        Due.is("19 heads", x.goerOf(0, 1), 30);
        Due.is("19 a", x.goerOf(0, 2), 99);
        Due.is("19 age", x.status(2), 12);
        Due.is("19 the tape is empty", x.status(7), 0);
        Due.is("19 blanks anywhere or nowhere", Due.valley(x, "   inn9 1 1said5 ;age0;  write 0 2 3   "), 3);
        Due.is("19 the book anew", x.status(3), 13);
        Due.is("19 as good as they are", x.innOf(3, 4), 9);
        Due.is("19 age anew", x.status(2), 0);
        Due.is("19 zeros ahead", Due.valley(x, "age 007"), 1);
        Due.is("19 seven years", x.status(2), 7);
        Due.is("19 nothing refused", x.status(12), 0);
    }

    private static void valleyComesToWhatThereIs() {
        EverybodyHasTheBook x = Due.of("inn 90 4 40 said 10; goer 1 2 3");
        x.change(0, 0, 50);
        x.letter(0, 4);
        Due.is("19 letter to one there was", Due.valley(x, "letter 0 6; inn 1 1 1; write 1 0; age 3; goer 2 2 2"), 5);
        Due.is("19 a letter that says 0, one that says 100", Due.valley(x, "letter 1 0;letter 1 100"), 2);
        Due.is("19 both", x.innOf(1, 5) * 1000 + x.innOf(1, 6), 2100);
        Due.is("19 letters", x.innOf(0, 5), 2);
        Due.is("19 together", x.innOf(0, 6), 10);
        Due.is("19 good of one there was", x.innOf(0, 4), 50);
        Due.is("19 number goes on", x.status(0), 2);
        Due.is("19 goers go on", x.goerOf(1, 0), 2);
        Due.is("19 age behind the book", x.status(2), 3);
        Due.is("19 said behind the book", Due.valley(x, "write 0;inn 7 7 7 said 70"), 2);
        Due.is("19 they are both in it", x.status(3), 5);
        Due.is("19 the last write counts", Due.valley(x, "write 0;write 2"), 2);
        Due.is("19 one is in it", x.status(3), 4);
        Due.is("19 as good as it is, not as said", x.innOf(2, 4), 7);
    }

    private static void fault(String text, int place) {
        EverybodyHasTheBook x = Due.of("inn 9 2 3; inn 8 2 3 said 4; goer 0 1 1");
        int bad = x.status(12);
        Due.is("19 " + text, Due.valley(x, text), -20 - place);
        Due.is("19 told: " + text, x.status(12), bad + 1);
        Due.is("19 the tape is empty: " + text, x.status(7), 0);
        Due.is("19 nothing came: " + text, x.status(0) * 10 + x.status(1), 21);
    }

    private static void valleyFaults() {
        String[] early = {"", "   ", "inn", "inn ", "inn 1", "inn 1 2", "inn 1 2 3 said", "inn 1 2 3;", "inn 1 2 3 ; ",
            "goer", "goer 1", "goer 1 2", "letter", "letter 1", "age", "write", "write ", "age 5;age"};
        for (String text : early) {
            fault(text, text.length());
        }
        fault(";", 0);
        fault("5", 0);
        fault("said 5", 0);
        fault("in 1 2 3", 0);
        fault("inns 1 2 3", 0);
        fault("onn 1 2 3", 0);
        fault("agez 5", 0);
        fault("ageA 5", 3);
        fault("age{5", 3);
        fault("age`5", 3);
        fault("age/5", 3);
        fault("age 5:", 5);
        fault("Inn 1 2 3", 0);
        fault("age 5;;age 5", 6);
        fault("age 5 age 5", 6);
        fault("age 5 5", 6);
        fault("age 5!", 5);
        fault("age 5 \n", 6);
        fault("age\t5", 3);
        fault("age 5\u00ff", 5);
        fault("inn inn", 4);
        fault("inn 101 1 1", 4);
        fault("inn 1 0 1", 6);
        fault("inn 1 21 1", 6);
        fault("inn 1 1 100", 8);
        fault("inn 1 1 1 1", 10);
        fault("inn 1 1 1 say 1", 10);
        fault("inn 1 1 1 said 101", 15);
        fault("inn 1 1 1 said said 1", 15);
        fault("inn 1 1 1 said 1 said 1", 17);
        fault("inn 1;1 1", 5);
        fault("inn 0001 1 1", 4);
        fault("inn 1 1 0000", 8);
        fault("inn 1 1 99999999999999999999", 8);
        fault("goer 6 1 1", 5);
        fault("goer 1 0 1", 7);
        fault("goer 1 31 1", 7);
        fault("goer 1 1 100", 9);
        fault("goer 1 1 1 1", 11);
        fault("letter 2 5", 7);
        fault("letter 1 101", 9);
        fault("letter 1 5 5", 11);
        fault("letter x 5", 7);
        fault("age 100", 4);
        fault("age x", 4);
        fault("write 2", 6);
        fault("write ;", 6);
        fault("write 0 1 0", 10);
        fault("write 00 0", 9);
        fault("write 0 2", 8);
        fault("write 0 1 said", 10);
        fault("write 0001", 6);
        fault("letter 2 5;inn 1 1 1", 7);
        fault("inn 1 1 1;age 100;inn 101 1 1", 14);
        fault("goer 1 1 1;inn 2 2 2;x", 21);
    }

    private static void valleyIsAllOrNothing() {
        EverybodyHasTheBook x = Due.of("inn 1 1 1;inn 1 1 1;inn 1 1 1;inn 1 1 1");
        Due.is("19 no room for an inn", Due.valley(x, "inn 2 2 2;inn 2 2 2; inn 2 2 2"), -41);
        Due.is("19 none came", x.status(0), 4);
        Due.is("19 no room, whatever is behind", Due.valley(x, "inn 2 2 2;inn 2 2 2;inn"), -40);
        Due.is("19 two fit", Due.valley(x, "inn 2 2 2;inn 2 2 2"), 2);
        Due.is("19 a letter to the last", Due.valley(x, "write 0 1 2 3 4 5;letter 5 5"), 2);
        Due.is("19 all in the book", x.status(3), 63);
        Due.is("19 seventh in the book", Due.valley(x, "write 0 1 2 3 4 5 0"), -38);
        for (int g = 0; g < 5; g++) {
            x.goer(0, 1, 0);
        }
        Due.is("19 no room for a goer", Due.valley(x, "age 3;goer 1 1 1; goer 1 1 1"), -38);
        Due.is("19 age stays", x.status(2), 0);
        Due.is("19 one fits", Due.valley(x, "goer 1 1 1"), 1);
        Due.is("19 it is there", x.status(1), 6);
        for (int i = 0; i < 98; i++) {
            x.letter(0, 1);
        }
        Due.is("19 letters full", Due.valley(x, "letter 0 1;letter 0 1"), -38);
        Due.is("19 letters stay", x.innOf(0, 5), 98);
        Due.is("19 the last letter", Due.valley(x, "letter 0 1"), 1);
        Due.is("19 I is the fault, if it has 99", Due.valley(x, "letter 0 777"), -27);
        x.seed(5);
        x.image();
        Due.is("19 seed stays", Due.valley(x, "age 1"), 1);
        Due.is("19 seed told", x.status(8), 5);
        StringBuilder longText = new StringBuilder("age 7");
        for (int i = 0; i < 49; i++) {
            longText.append(";age ");
        }
        EverybodyHasTheBook full = new EverybodyHasTheBook();
        Due.is("19 a full tape", Due.valley(full, longText.toString()), -30);
        Due.is("19 no reading of an empty tape", full.valley(), -20);
        StringBuilder many = new StringBuilder("age 7");
        for (int i = 0; i < 49; i++) {
            many.append(";age").append(i % 10);
        }
        Due.is("19 250 bytes", many.length(), 250);
        EverybodyHasTheBook y = new EverybodyHasTheBook();
        Due.is("19 all of them", Due.valley(y, many.toString()), 50);
        Due.is("19 the last counts", y.status(2), 8);
    }

    private static void innOf() {
        EverybodyHasTheBook x = Due.of("inn 90 4 40; inn 80 5 30 said 70; letter 1 8;letter 1 9");
        x.change(1, 0, 33);
        int[] due = {33, 80, 5, 30, 70, 2, 17};
        for (int what = 0; what < 7; what++) {
            Due.is("20 what " + what, x.innOf(1, what), due[what]);
        }
        Due.is("20 not in the book", x.innOf(0, 4), -1);
        Due.is("20 what 7", x.innOf(1, 7), -2);
        Due.is("20 what -1", x.innOf(1, -1), -2);
        Due.is("20 inn 2", x.innOf(2, 0), -2);
        Due.is("20 inn -1", x.innOf(-1, 0), -2);
        Due.is("20 refused", x.status(12), 4);
    }

    private static void goerOf() {
        EverybodyHasTheBook x = Due.of("goer 0 1 2; goer 4 30 99");
        int[] due = {4, 30, 99};
        for (int what = 0; what < 3; what++) {
            Due.is("21 what " + what, x.goerOf(1, what), due[what]);
        }
        Due.is("21 the first", x.goerOf(0, 2), 2);
        Due.is("21 what 3", x.goerOf(1, 3), -2);
        Due.is("21 what -1", x.goerOf(1, -1), -2);
        Due.is("21 goer 2", x.goerOf(2, 0), -2);
        Due.is("21 goer -1", x.goerOf(-1, 0), -2);
        Due.is("21 refused", x.status(12), 4);
    }
}
