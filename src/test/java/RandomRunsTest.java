import java.lang.reflect.Method;

/** Runs of calls by draws (always the same ones), on the class and on the Model: the answers are the same. */
public final class RandomRunsTest {
    private static final int RUNS = 400;
    /** An object is used for 512 calls at most; compareState() makes 202 of them. */
    private static final int CALLS = 310;

    private static int calls;

    /** A call, how often it comes, and a range for each argument. */
    private static final String[] CALL_TABLE = {
        "row 6 0..8 0..5 0..41", "set 9 0..8 0..40 -300..70000", "copy 6 0..7 0..7 0..8 0..8 0..9",
        "element 6 0..8 0..40", "holds 3 0..8", "show 6 0..7 -1..6", "says 12 0..7 0..6",
        "inn 8 0..101 0..21 0..100", "goer 8 0..6 0..31 0..100", "change 8 0..6 0..2 0..101",
        "say 8 0..6 -1..101", "write 4 0..64", "letter 8 0..6 0..101", "age 3 0..100", "heads 4 0..6 0..31",
        "feed 2 -1..256", "wipe 1", "valley 1", "innOf 14 0..6 0..7", "goerOf 5 0..6 0..3", "score 10 0..6 0..6",
        "sleeps 8 0..6 0..6", "guests 5 0..6", "out 5 -1..6", "full 4", "joy 6 -1..6", "taken 4 0..6",
        "crowd 5 0..6", "lean 6 0..6", "truest 3", "oldest 3", "enough 4 0..6", "better 4 0..6", "trust 3 0..6",
        "share 4 0..6", "nine 5 0..6 0..41 0..101", "two 6 0..64 0..64", "judge 6 0..8", "years 5 0..13 -1..6",
        "then 6 0..13 0..6 0..3", "book 2 0..13 0..7", "written 3 0..13 0..64", "many 1 0..13", "round 1 0..4 -1..3",
        "kept 5 0..13 0..6", "called 4 0..13 0..6 0..101", "spoilt 3 0..6 0..101",
        "bears 2 0..6 0..6 0..13 0..101", "recovers 3 0..6", "dearest 1 0..13 0..6", "year 4", "goes 3 0..13",
        "post 3 0..41", "seed 2 -99999..99999", "image 2", "back 2", "status 14 0..17",
    };

    private static long state = 20261118;

    private static int draw(int least, int most) {
        state = state * 6364136223846793005L + 1442695040888963407L;
        return least + (int) ((state >>> 33) % (most - least + 1));
    }

    private static int argument(String range) {
        if (draw(0, 149) == 0) {
            int[] far = {-2, Integer.MIN_VALUE, Integer.MAX_VALUE, 1 << 16, -1};
            return far[draw(0, 4)];
        }
        String[] ends = range.split("\\.\\.");
        int least = Integer.parseInt(ends[0]);
        int most = Integer.parseInt(ends[1]);
        // the ends of a range stand outside it often, and should not come too often
        return draw(0, 3) == 0 ? draw(least, most) : draw(Math.max(least, Math.min(1, most)), Math.max(least, most - 1));
    }

    private static String drawnLine() {
        String[] texts = {
            "inn " + draw(0, 100) + " " + draw(1, 20) + " " + draw(0, 99),
            "inn" + draw(0, 100) + " " + draw(1, 20) + " " + draw(0, 99) + "said" + draw(0, 100),
            "goer " + draw(0, 5) + " " + draw(1, 30) + " " + draw(0, 99),
            "letter " + draw(0, 2) + " " + draw(0, 100),
            "age " + draw(0, 99),
            "write " + draw(0, 2) + " " + draw(0, 5),
            "write 0",
        };
        return texts[draw(0, texts.length - 1)];
    }

    private static String drawnText() {
        StringBuilder text = new StringBuilder();
        int lines = draw(1, 6);
        for (int i = 0; i < lines; i++) {
            text.append(i == 0 ? "" : draw(0, 3) == 0 ? " ; " : ";").append(drawnLine());
        }
        if (draw(0, 2) == 0) {
            String some = "; aos0189z!~\u00ff\n";
            int place = draw(0, text.length() - 1);
            if (draw(0, 1) == 0) {
                text.setCharAt(place, some.charAt(draw(0, some.length() - 1)));
            } else {
                text.insert(place, some.charAt(draw(0, some.length() - 1)));
            }
        }
        return text.toString();
    }

    private static Object call(Object on, String name, int[] args) throws Exception {
        for (Method m : on.getClass().getDeclaredMethods()) {
            if (m.getName().equals(name) && m.getParameterCount() == args.length && isPublic(m)) {
                Object[] given = new Object[args.length];
                for (int i = 0; i < args.length; i++) {
                    given[i] = m.getParameterTypes()[i] == long.class ? (Object) (long) args[i] : (Object) args[i];
                }
                return m.invoke(on, given);
            }
        }
        throw new IllegalStateException(name);
    }

    private static boolean isPublic(Method m) {
        return java.lang.reflect.Modifier.isPublic(m.getModifiers());
    }

    private static void both(int run, EverybodyHasTheBook x, Model m, String name, int... args) throws Exception {
        calls++;
        long got = ((Number) call(x, name, args)).longValue();
        long want = ((Number) call(m, name, args)).longValue();
        Due.is("run " + run + ": " + name + java.util.Arrays.toString(args), got, want);
    }

    private static void tellText(int run, EverybodyHasTheBook x, Model m, String text) throws Exception {
        for (int i = 0; i < text.length(); i++) {
            both(run, x, m, "feed", text.charAt(i));
        }
        both(run, x, m, "valley");
        for (int what = 0; what < 17; what++) {
            both(run, x, m, "status", what);
        }
    }

    private static void compareState(int run, EverybodyHasTheBook x, Model m) throws Exception {
        for (int i = 0; i < 6; i++) {
            for (int what = 0; what < 7; what++) {
                both(run, x, m, "innOf", i, what);
            }
            for (int what = 0; what < 3; what++) {
                both(run, x, m, "goerOf", i, what);
            }
            for (int goer = 0; goer < 6; goer++) {
                both(run, x, m, "sleeps", goer, i);
            }
        }
        for (int s = 0; s < 8; s++) {
            both(run, x, m, "holds", s);
            for (int i = 0; i < 10; i++) {
                both(run, x, m, "element", s, i);
            }
        }
        for (int what = 0; what < 18; what++) {
            both(run, x, m, "status", what);
        }
    }

    private static void run(int run, String[] specs) throws Exception {
        calls = 0;
        EverybodyHasTheBook x = new EverybodyHasTheBook();
        Model m = new Model();
        int inns = draw(0, 6);
        int goers = draw(0, 6);
        for (int i = 0; i < inns; i++) {
            both(run, x, m, "inn", draw(0, 100), draw(1, 20), draw(0, 99));
        }
        for (int g = 0; g < goers; g++) {
            both(run, x, m, "goer", draw(0, 5), draw(1, 30), draw(0, 1) == 0 ? draw(0, 99) : draw(0, 4));
        }
        while (calls < CALLS) {
            if (draw(0, 39) == 0) {
                String text = drawnText();
                if (calls + text.length() + 18 <= CALLS) {
                    tellText(run, x, m, text);
                }
                continue;
            }
            String[] spec = specs[draw(0, specs.length - 1)].split(" ");
            int[] args = new int[spec.length - 2];
            for (int a = 0; a < args.length; a++) {
                args[a] = argument(spec[a + 2]);
            }
            both(run, x, m, spec[0], args);
        }
        compareState(run, x, m);
    }

    public static void main(String[] args) throws Exception {
        java.util.List<String> specs = new java.util.ArrayList<>();
        for (String spec : CALL_TABLE) {
            for (int often = Integer.parseInt(spec.split(" ")[1]); often > 0; often--) {
                specs.add(spec);
            }
        }
        for (int r = 0; r < RUNS; r++) {
            run(r, specs.toArray(new String[0]));
        }
        Due.end();
    }
}
