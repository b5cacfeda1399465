/** Counts the answers that are not due; every test here ends with end(). */
final class Due {
    private static int asked = 0;
    private static int wrong = 0;

    private Due() {
    }

    static void is(String call, long got, long want) {
        asked++;
        if (got != want) {
            wrong++;
            System.out.println(call + " answered " + got + ", due is " + want);
        }
    }

    static void holds(String what, boolean so) {
        is(what, so ? 1 : 0, 1);
    }

    static void feed(EverybodyHasTheBook x, String text) {
        for (int i = 0; i < text.length(); i++) {
            x.feed(text.charAt(i));
        }
    }

    /** What valley() answers to a text on an empty tape. */
    static int valley(EverybodyHasTheBook x, String text) {
        x.wipe();
        feed(x, text);
        return x.valley();
    }

    static EverybodyHasTheBook of(String text) {
        EverybodyHasTheBook x = new EverybodyHasTheBook();
        holds("valley: " + text, valley(x, text) > 0);
        return x;
    }

    static void end() {
        System.out.println(asked + " asked, " + wrong + " wrong");
        if (wrong != 0) {
            System.exit(1);
        }
    }
}
