/** Promises 9 to 21 at their edges: what may be told of INNS and GOERS, what is full, THE TAPE byte by byte. */
public final class ValleyEdgesTest {
    public static void main(String[] args) {
        inn();
        innsFull();
        goer();
        goersFull();
        change();
        say();
        write();
        letter();
        lettersFull();
        age();
        heads();
        feed();
        tapeFull();
        wipe();
        numbersThatMayBe();
        numbersThatMayNotBe();
        numbersOfThreeDigits();
        tapeEndsTooEarly();
        firstByte();
        byteBehindAWord();
        byteBehindANumber();
        noRoomForInns();
        noRoomForGoers();
        noRoomForLetters();
        innsOfWrite();
        valleyOfAnEmptyValley();
        tapeFullOfText();
        faultIsTheFirst();
        innOf();
        goerOf();
        Due.end();
    }

    private static void inn() {
        Edge.of("9 GOOD", Edge::busy, (x, v) -> x.inn(v, 1, 0)).least(0, 3).most(100, 3).elseRefused(-2);
        Edge.of("9 ROOMS", Edge::busy, (x, v) -> x.inn(0, v, 0)).least(1, 3).most(20, 3).elseRefused(-2);
        Edge.of("9 PRICE", Edge::busy, (x, v) -> x.inn(0, 1, v)).least(0, 3).most(99, 3).elseRefused(-2);
        int[][] told = {{0, 1, 0}, {100, 20, 99}};
        for (int[] one : told) {
            EverybodyHasTheBook x = new EverybodyHasTheBook();
            Due.is("9 the first", x.inn(one[0], one[1], one[2]), 0);
            int[] due = {one[0], one[0], one[1], one[2], -1, 0, 0};
            for (int what = 0; what < 7; what++) {
                Due.is("9 at first, what " + what, x.innOf(0, what), due[what]);
            }
        }
    }

    private static void innsFull() {
        EverybodyHasTheBook x = new EverybodyHasTheBook();
        for (int i = 0; i < 6; i++) {
            Due.is("9 numbers, 0 on", x.inn(1, 1, 1), i);
            Due.is("9 how many", x.status(0), i + 1);
        }
        Edge.refused("9 the seventh", Edge::six, y -> y.inn(1, 1, 1), -6);
        Edge.refused("9 BAD GOOD ahead of FULL", Edge::six, y -> y.inn(101, 1, 1), -2);
        Edge.refused("9 BAD ROOMS ahead of FULL", Edge::six, y -> y.inn(1, 0, 1), -2);
        Edge.refused("9 BAD PRICE ahead of FULL", Edge::six, y -> y.inn(1, 1, 100), -2);
    }

    private static void goer() {
        Edge.of("10 KIND", Edge::busy, (x, v) -> x.goer(v, 1, 0)).least(0, 3).most(5, 3).elseRefused(-2);
        Edge.of("10 HEADS", Edge::busy, (x, v) -> x.goer(0, v, 0)).least(1, 3).most(30, 3).elseRefused(-2);
        Edge.of("10 a", Edge::busy, (x, v) -> x.goer(0, 1, v)).least(0, 3).most(99, 3).elseRefused(-2);
        int[][] told = {{0, 1, 0}, {5, 30, 99}};
        for (int[] one : told) {
            EverybodyHasTheBook x = new EverybodyHasTheBook();
            Due.is("10 the first", x.goer(one[0], one[1], one[2]), 0);
            for (int what = 0; what < 3; what++) {
                Due.is("10 as told, what " + what, x.goerOf(0, what), one[what]);
            }
        }
    }

    private static void goersFull() {
        EverybodyHasTheBook x = new EverybodyHasTheBook();
        for (int g = 0; g < 6; g++) {
            Due.is("10 numbers, 0 on", x.goer(1, 1, 1), g);
            Due.is("10 how many", x.status(1), g + 1);
        }
        Edge.refused("10 the seventh", Edge::six, y -> y.goer(1, 1, 1), -6);
        Edge.refused("10 BAD KIND ahead of FULL", Edge::six, y -> y.goer(6, 1, 1), -2);
        Edge.refused("10 BAD HEADS ahead of FULL", Edge::six, y -> y.goer(1, 31, 1), -2);
        Edge.refused("10 BAD a ahead of FULL", Edge::six, y -> y.goer(1, 1, -1), -2);
    }

    private static void change() {
        Edge.of("11 INN, GOOD", Edge::busy, (x, v) -> x.change(v, 0, 9)).least(0, 60).most(2, 50).elseRefused(-2);
        Edge.of("11 INN, PRICE", Edge::busy, (x, v) -> x.change(v, 1, 9)).least(0, 20).most(2, 9).elseRefused(-2);
        Edge.of("11 INN of six", Edge::six, (x, v) -> x.change(v, 1, 9)).least(0, 0).most(5, 50).elseRefused(-2);
        Edge.of("11 what", Edge::busy, (x, v) -> x.change(1, v, 9)).least(0, 75).most(1, 41).elseRefused(-2);
        Edge.of("11 GOOD", Edge::busy, (x, v) -> x.change(1, 0, v)).least(0, 75).most(100, 75).elseRefused(-2);
        Edge.of("11 PRICE", Edge::busy, (x, v) -> x.change(1, 1, v)).least(0, 41).most(99, 41).elseRefused(-2);
        EverybodyHasTheBook x = Edge.busy();
        for (int v : new int[] {0, 100}) {
            x.change(0, 0, v);
            Due.is("11 GOOD becomes v", x.innOf(0, 0), v);
            Due.is("11 BASE stays", x.innOf(0, 1), 60);
            Due.is("11 what is SAID stays", x.innOf(0, 4), 70);
        }
        for (int v : new int[] {0, 99}) {
            x.change(0, 1, v);
            Due.is("11 PRICE becomes v", x.innOf(0, 3), v);
            Due.is("11 GOOD stays then", x.innOf(0, 0), 100);
        }
    }

    private static void say() {
        Edge.of("12 INN", Edge::busy, (x, v) -> x.say(v, 9)).least(0, 70).most(2, 50).elseRefused(-2);
        Edge.of("12 INN of six", Edge::six, (x, v) -> x.say(v, 9)).least(0, -1).most(5, -1).elseRefused(-2);
        Edge.of("12 v", Edge::busy, (x, v) -> x.say(0, v)).least(-1, 70).most(100, 70).elseRefused(-2);
        EverybodyHasTheBook x = Edge.busy();
        for (int v : new int[] {0, -1, 100, -1}) {
            x.say(0, v);
            Due.is("12 SAID becomes v", x.innOf(0, 4), v);
            Due.is("12 in the BOOK", x.status(3), v == -1 ? 4 : 5);
            Due.is("12 AGE stays", x.status(2), 4);
        }
    }

    private static void write() {
        for (int k = 0; k <= 6; k++) {
            int inns = k;
            Edge.Made made = () -> {
                EverybodyHasTheBook x = new EverybodyHasTheBook();
                for (int i = 0; i < inns; i++) {
                    x.inn(50, 1, 1);
                }
                x.age(9);
                return x;
            };
            int all = (1 << k) - 1;
            Edge.of("13 of " + k, made, (x, v) -> x.write(v)).least(0, 0).most(all, k).elseRefused(-2);
        }
        EverybodyHasTheBook x = Edge.six();
        x.age(99);
        Due.is("13 all", x.write(63), 6);
        Due.is("13 all are in it", x.status(3), 63);
        Due.is("13 AGE anew", x.status(2), 0);
        x.age(99);
        Due.is("13 the last one", x.write(32), 1);
        Due.is("13 no others", x.status(3), 32);
        Due.is("13 as GOOD as it is", x.innOf(5, 4), 55);
        x.age(99);
        Due.is("13 none", x.write(0), 0);
        Due.is("13 the BOOK is empty", x.status(3), 0);
        Due.is("13 AGE anew, too", x.status(2), 0);
    }

    private static void letter() {
        Edge.of("14 INN", Edge::busy, (x, v) -> x.letter(v, 9)).least(0, 2).most(2, 3).elseRefused(-2);
        Edge.of("14 INN of six", Edge::six, (x, v) -> x.letter(v, 9)).least(0, 1).most(5, 1).elseRefused(-2);
        Edge.of("14 v", Edge::busy, (x, v) -> x.letter(1, v)).least(0, 1).most(100, 1).elseRefused(-2);
    }

    private static EverybodyHasTheBook lettered(int many, int v) {
        EverybodyHasTheBook x = new EverybodyHasTheBook();
        x.inn(50, 1, 1);
        x.inn(50, 1, 1);
        for (int i = 0; i < many; i++) {
            x.letter(0, v);
        }
        return x;
    }

    private static void lettersFull() {
        Edge.answered("14 the 99th", () -> lettered(98, 100), x -> x.letter(0, 100), 99);
        Edge.refused("14 the 100th", () -> lettered(99, 100), x -> x.letter(0, 100), -6);
        Edge.refused("14 the 100th, saying 0", () -> lettered(99, 100), x -> x.letter(0, 0), -6);
        Edge.refused("14 BAD v ahead of FULL", () -> lettered(99, 100), x -> x.letter(0, 101), -2);
        Edge.answered("14 another INN's first", () -> lettered(99, 100), x -> x.letter(1, 0), 1);
        Due.is("20 99 LETTERS", lettered(99, 100).innOf(0, 5), 99);
        Due.is("20 most together", lettered(99, 100).innOf(0, 6), 9900);
        Due.is("20 least together", lettered(99, 0).innOf(0, 6), 0);
    }

    private static void age() {
        Edge.of("15 v", Edge::busy, (x, v) -> x.age(v)).least(0, 4).most(99, 4).elseRefused(-2);
        EverybodyHasTheBook x = new EverybodyHasTheBook();
        Due.is("15 0 at first", x.age(99), 0);
        Due.is("15 becomes 99", x.status(2), 99);
        Due.is("15 was 99", x.age(0), 99);
        Due.is("15 becomes 0", x.status(2), 0);
    }

    private static void heads() {
        Edge.of("16 GOER", Edge::busy, (x, v) -> x.heads(v, 9)).least(0, 4).most(2, 2).elseRefused(-2);
        Edge.of("16 GOER of six", Edge::six, (x, v) -> x.heads(v, 9)).least(0, 2).most(5, 2).elseRefused(-2);
        Edge.of("16 v", Edge::busy, (x, v) -> x.heads(1, v)).least(1, 3).most(30, 3).elseRefused(-2);
        EverybodyHasTheBook x = Edge.busy();
        for (int v : new int[] {1, 30}) {
            x.heads(2, v);
            Due.is("16 HEADS become v", x.goerOf(2, 1), v);
            Due.is("16 of all", x.status(5), 7 + v);
        }
    }

    private static void feed() {
        Edge.of("17 byte", Edge::busy, (x, v) -> x.feed(v)).least(0, 6).most(255, 6).elseRefused(-2);
        Edge.of("17 the first byte", EverybodyHasTheBook::new, (x, v) -> x.feed(v)).least(0, 1).most(255, 1).elseRefused(-2);
    }

    private static EverybodyHasTheBook fed(String text, int size) {
        EverybodyHasTheBook x = new EverybodyHasTheBook();
        Due.feed(x, text);
        for (int i = text.length(); i < size; i++) {
            x.feed(' ');
        }
        return x;
    }

    private static void tapeFull() {
        Edge.answered("17 the 250th", () -> fed("age 7", 249), x -> x.feed(' '), 250);
        Edge.refused("17 the 251st", () -> fed("age 7", 250), x -> x.feed(';'), -6);
        Edge.refused("17 BAD ahead of FULL", () -> fed("age 7", 250), x -> x.feed(256), -2);
        Edge.refused("17 BAD below 0 ahead of FULL", () -> fed("age 7", 250), x -> x.feed(-1), -2);
        Due.is("58 THE TAPE's greatest size", fed("", 250).status(7), 250);
    }

    private static void wipe() {
        Edge.answered("18 empty", EverybodyHasTheBook::new, x -> x.wipe(), 0);
        Edge.answered("18 one", () -> fed("", 1), x -> x.wipe(), 1);
        Edge.answered("18 full", () -> fed("", 250), x -> x.wipe(), 250);
        EverybodyHasTheBook x = fed("age 7", 250);
        x.wipe();
        Due.is("18 THE TAPE is empty", x.status(7), 0);
        Due.is("18 it has room again", x.feed('a'), 1);
        Due.is("18 nothing is left of it", x.valley(), -20);
        Due.is("18 empty behind valley()", x.wipe(), 0);
    }

    private static void comes(String text, int statements) {
        Edge.answered("19 " + text, Edge::busy, x -> Due.valley(x, text), statements);
    }

    private static void fault(String text, int place) {
        Edge.faulty("19", Edge::busy, text, place);
    }

    private static void numbersThatMayBe() {
        String[] texts = {"inn 0 1 0", "inn 100 1 0", "inn 0 20 0", "inn 0 1 99", "inn 0 1 0 said 0", "inn 0 1 0 said 100",
            "goer 0 1 0", "goer 5 1 0", "goer 0 30 0", "goer 0 1 99", "letter 0 0", "letter 2 0", "letter 0 100", "age 0",
            "age 99", "write 0", "write 2", "write 0 2"};
        for (String text : texts) {
            comes(text, 1);
        }
        EverybodyHasTheBook x = Due.of("inn 0 1 0;inn 100 20 99 said 100;inn 1 1 1 said 0;goer 0 1 0;goer 5 30 99;age 99");
        int[][] inns = {{0, 0, 1, 0, -1, 0, 0}, {100, 100, 20, 99, 100, 0, 0}, {1, 1, 1, 1, 0, 0, 0}};
        for (int i = 0; i < 3; i++) {
            for (int what = 0; what < 7; what++) {
                Due.is("19 INN " + i + " what " + what, x.innOf(i, what), inns[i][what]);
            }
        }
        int[][] goers = {{0, 1, 0}, {5, 30, 99}};
        for (int g = 0; g < 2; g++) {
            for (int what = 0; what < 3; what++) {
                Due.is("19 GOER " + g + " what " + what, x.goerOf(g, what), goers[g][what]);
            }
        }
        Due.is("19 AGE 99", x.status(2), 99);
    }

    private static void numbersThatMayNotBe() {
        fault("inn 101 1 0", 4);
        fault("inn 0 0 0", 6);
        fault("inn 0 21 0", 6);
        fault("inn 0 1 100", 8);
        fault("inn 0 1 0 said 101", 15);
        fault("goer 6 1 0", 5);
        fault("goer 0 0 0", 7);
        fault("goer 0 31 0", 7);
        fault("goer 0 1 100", 9);
        fault("letter 3 0", 7);
        fault("letter 0 101", 9);
        fault("age 100", 4);
        fault("write 3", 6);
        fault("write 0 3", 8);
        fault("inn -1 1 0", 4);
        fault("inn 0 1 -1", 8);
        fault("goer -1 1 0", 5);
        fault("letter -1 0", 7);
        fault("age -1", 4);
        fault("write -1", 6);
    }

    private static void numbersOfThreeDigits() {
        comes("inn 000 001 000 said 000", 1);
        comes("inn 100 020 099 said 100", 1);
        comes("goer 005 030 099", 1);
        comes("letter 002 100", 1);
        comes("age 099", 1);
        comes("write 000 001 002", 1);
        fault("inn 0000 1 0", 4);
        fault("inn 0 0001 0", 6);
        fault("inn 0 1 0000", 8);
        fault("inn 0 1 0 said 0000", 15);
        fault("goer 0000 1 0", 5);
        fault("goer 0 0001 0", 7);
        fault("goer 0 1 0000", 9);
        fault("letter 0000 0", 7);
        fault("letter 0 0000", 9);
        fault("age 0099", 4);
        fault("write 0000", 6);
        fault("write 0 0001", 8);
        fault("age 999", 4);
        fault("age 1000", 4);
        fault("age 4294967296", 4);
        fault("age 18446744073709551617", 4);
    }

    private static void tapeEndsTooEarly() {
        String[][] told = {{"inn", "0", "1", "0", "said", "0"}, {"goer", "0", "1", "0"}, {"letter", "0", "0"}, {"age", "0"},
            {"write", "0"}};
        for (String[] tokens : told) {
            StringBuilder text = new StringBuilder();
            for (int i = 0; i < tokens.length; i++) {
                text.append(i == 0 ? "" : " ").append(tokens[i]);
                boolean whole = i == tokens.length - 1 || tokens[0].equals("inn") && i == 3;
                if (whole) {
                    comes(text.toString(), 1);
                    comes(text + "  ", 1);
                    fault(text + ";", text.length() + 1);
                    fault(text + " ; ", text.length() + 3);
                } else {
                    fault(text.toString(), text.length());
                    fault(text + "   ", text.length() + 3);
                    fault(text + ";", text.length());
                }
            }
        }
        fault("", 0);
        fault(" ", 1);
        fault("   ", 3);
        fault(";", 0);
        fault("age 1;", 6);
        fault("age 1;;", 6);
    }

    private static void firstByte() {
        for (int b = 0; b < 256; b++) {
            fault(String.valueOf((char) b), b == ' ' ? 1 : 0);
        }
    }

    private static void byteBehindAWord() {
        for (int b = 0; b < 256; b++) {
            String text = "age" + (char) b;
            if (b >= '0' && b <= '9') {
                comes(text, 1);
            } else if (b >= 'a' && b <= 'z') {
                fault(text, 0);
            } else {
                fault(text, b == ' ' ? 4 : 3);
            }
        }
    }

    private static void byteBehindANumber() {
        for (int b = 0; b < 256; b++) {
            String text = "age 5" + (char) b;
            if (b >= '0' && b <= '9' || b == ' ') {
                comes(text, 1);
            } else {
                fault(text, b == ';' ? 6 : 5);
            }
        }
    }

    private static void noRoomForInns() {
        comes("inn 1 1 1;inn 1 1 1;inn 1 1 1", 3);
        fault("inn 1 1 1;inn 1 1 1;inn 1 1 1;inn 1 1 1", 30);
        fault("inn 1 1 1;inn 1 1 1;inn 1 1 1;inn", 30);
        String[] texts = {"inn 1 1 1", "inn", "inn ", "inn 101", "inn x", "inn;"};
        for (String text : texts) {
            Edge.faulty("19 six INNS", Edge::six, text, 0);
            Edge.faulty("19 six INNS", Edge::six, "age 1; " + text, 7);
        }
        EverybodyHasTheBook x = new EverybodyHasTheBook();
        Due.is("19 six at once", Due.valley(x, "inn 1 1 1;inn 1 1 1;inn 1 1 1;inn 1 1 1;inn 1 1 1;inn 1 1 1"), 6);
        Due.is("19 six", x.status(0), 6);
    }

    private static void noRoomForGoers() {
        comes("goer 1 1 1;goer 1 1 1;goer 1 1 1", 3);
        fault("goer 1 1 1;goer 1 1 1;goer 1 1 1;goer 1 1 1", 33);
        String[] texts = {"goer 1 1 1", "goer", "goer ", "goer 6", "goer x", "goer;"};
        for (String text : texts) {
            Edge.faulty("19 six GOERS", Edge::six, text, 0);
            Edge.faulty("19 six GOERS", Edge::six, "age 1; " + text, 7);
        }
        EverybodyHasTheBook x = new EverybodyHasTheBook();
        Due.is("19 six at once", Due.valley(x, "goer 1 1 1;goer 1 1 1;goer 1 1 1;goer 1 1 1;goer 1 1 1;goer 1 1 1"), 6);
        Due.is("19 six", x.status(1), 6);
    }

    private static void noRoomForLetters() {
        Edge.answered("19 the 99th", () -> lettered(98, 1), x -> Due.valley(x, "letter 0 100"), 1);
        Edge.faulty("19 the 100th of one text", () -> lettered(98, 1), "letter 0 1;letter 0 1", 18);
        String[] texts = {"letter 0 1", "letter 0", "letter 0 ", "letter 0 101", "letter 0 x", "letter 0;"};
        for (String text : texts) {
            Edge.faulty("19 99 LETTERS", () -> lettered(99, 1), text, 7);
        }
        Edge.answered("19 the other INN's", () -> lettered(99, 1), x -> Due.valley(x, "letter 1 1"), 1);
        EverybodyHasTheBook x = lettered(98, 1);
        Due.valley(x, "letter 0 100");
        Due.is("19 99 LETTERS", x.innOf(0, 5), 99);
        Due.is("19 together", x.innOf(0, 6), 198);
    }

    private static void innsOfWrite() {
        fault("write", 5);
        fault("write;", 5);
        fault("write 0 0", 8);
        fault("write 0 00", 8);
        fault("write 0 1 2 0", 12);
        fault("write 2 1 0 2 2", 12);
        fault("write 0 1 2 3", 12);
        fault("write 0 x", 8);
        EverybodyHasTheBook x = Edge.six();
        Due.is("19 all six", Due.valley(x, "age 9;write 5 4 3 2 1 0"), 2);
        Due.is("19 all are in it", x.status(3), 63);
        Due.is("19 AGE 0", x.status(2), 0);
        Due.is("19 no others", Due.valley(x, "age 9;write 5;age 8"), 3);
        Due.is("19 one is in it", x.status(3), 32);
        Due.is("19 AGE as told behind it", x.status(2), 8);
        Edge.faulty("19 a seventh number", Edge::six, "write 0 1 2 3 4 5 6", 18);
        Edge.faulty("19 a sixth one told twice", Edge::six, "write 0 1 2 3 4 5 5", 18);
    }

    private static void valleyOfAnEmptyValley() {
        Edge.Made none = EverybodyHasTheBook::new;
        Edge.faulty("19 no INN", none, "write 0", 6);
        Edge.faulty("19 no INN", none, "write", 5);
        Edge.faulty("19 no INN", none, "letter 0 5", 7);
        Edge.faulty("19 no INN yet", none, "letter 0 5;inn 1 1 1", 7);
        Edge.faulty("19 no INN yet", none, "write 0;inn 1 1 1", 6);
        Edge.answered("19 a first INN", none, x -> Due.valley(x, "inn 1 1 1;letter 0 5;write 0"), 3);
        Edge.faulty("19 an empty TAPE", none, "", 0);
        Edge.answered("19 AGE alone", none, x -> Due.valley(x, "age 0"), 1);
    }

    private static void tapeFullOfText() {
        Edge.answered("19 blanks up to 250", () -> fed("age 7", 250), x -> x.valley(), 1);
        Due.is("19 blanks alone", fed("", 250).valley(), -270);
        Due.is("19 250, one token too few", fed("age", 250).valley(), -270);
        StringBuilder fifty = new StringBuilder("age 7");
        while (fifty.length() < 250) {
            fifty.append(";age8");
        }
        Edge.answered("19 fifty STATEMENTS", () -> fed(fifty.toString(), 250), x -> x.valley(), 50);
        Due.is("19 a WORD of 250", fed("a".repeat(250), 250).valley(), -20);
        Due.is("19 a NUMBER of 247", fed("age" + "0".repeat(247), 250).valley(), -23);
        Due.is("19 the last byte is the FAULT", fed("age 7" + " ".repeat(244) + "x", 250).valley(), -269);
        Due.is("19 a SIGN at the end", fed("age 7" + " ".repeat(244) + ";", 250).valley(), -270);
    }

    private static void faultIsTheFirst() {
        fault("age 100;inn", 4);
        fault("age 1;age 100;age 101", 10);
        fault("age 1 1", 6);
        fault("age 1 age 1", 6);
        fault("inn 1 1 1 said", 14);
        fault("inn 1 1 1 said said", 15);
        fault("inn 1 1 1 said 1 said 1", 17);
        fault("inn 1 1 1 sai", 10);
        fault("inn 1 1 1 saids 1", 10);
        fault("inn 1 1 1 1", 10);
        fault("said 1", 0);
        fault("goer 1 1 1 said 1", 11);
        fault("letter 0 1 said 1", 11);
        fault("letter 0 1 1", 11);
        fault("age 1 said 1", 6);
        fault("write 0 said 1", 8);
        fault("inn;1 1 1", 3);
        fault("inn 1;1 1", 5);
        fault("INN 1 1 1", 0);
        String[] whole = {"inn 1 1 1", "goer 1 1 1", "letter 1 1", "age 1", "write 1"};
        for (String text : whole) {
            comes(text, 1);
            int end = text.indexOf(' ');
            for (int i = 0; i < end; i++) {
                fault(text.substring(0, i) + "x" + text.substring(i + 1), 0);
                fault(text.substring(0, i) + text.substring(i + 1), 0);
            }
            fault(text.substring(0, end) + "s" + text.substring(end), 0);
        }
        for (int i = 0; i < 4; i++) {
            fault("inn 1 1 1 " + "said".substring(0, i) + "x" + "said".substring(i + 1) + " 1", 10);
        }
        fault("1 inn", 0);
        fault("age 1,age 1", 5);
        comes("inn1 1 1said1;goer1 1 1;letter2 1;age1;write0 1", 5);
        comes("  inn  1  1  1  said  1  ;  age  1  ", 2);
    }

    private static void innOf() {
        Edge.of("20 INN", Edge::busy, (x, v) -> x.innOf(v, 0)).least(0, 60).most(2, 50).elseRefused(-2);
        Edge.of("20 INN of six", Edge::six, (x, v) -> x.innOf(v, 1)).least(0, 50).most(5, 55).elseRefused(-2);
        Edge.of("20 what", Edge::busy, (x, v) -> x.innOf(2, v)).least(0, 50).most(6, 111).elseRefused(-2);
        Edge.thought("20 not in the BOOK: NONE", Edge::busy, x -> x.innOf(1, 4), -1);
    }

    private static void goerOf() {
        Edge.of("21 GOER", Edge::busy, (x, v) -> x.goerOf(v, 0)).least(0, 1).most(2, 5).elseRefused(-2);
        Edge.of("21 GOER of six", Edge::six, (x, v) -> x.goerOf(v, 0)).least(0, 0).most(5, 5).elseRefused(-2);
        Edge.of("21 what", Edge::busy, (x, v) -> x.goerOf(1, v)).least(0, 3).most(2, 5).elseRefused(-2);
    }
}
