import java.lang.reflect.Method;
import java.lang.reflect.Modifier;

/** No call throws, whatever it is given; the face is the document's and no more. */
public final class AnyCallTest {
    private static final long[] FAR = {0, 1, 2, 5, 6, 7, 12, 30, 40, 63, 64, 99, 100, 250, -1, -2, Integer.MAX_VALUE,
        Integer.MIN_VALUE, Integer.MIN_VALUE + 1, 1L << 31, Long.MAX_VALUE, Long.MIN_VALUE};

    private static final String[] FACE = {
        "int row int int int", "int set int int long", "int copy int int int int int", "long element int int",
        "int holds int", "int show int int", "int says int int", "int inn int int int", "int goer int int int",
        "int change int int int", "int say int int", "int write int", "int letter int int", "int age int",
        "int heads int int", "int feed int", "int wipe", "int valley", "int innOf int int", "int goerOf int int",
        "int score int int", "int sleeps int int", "int guests int", "int out int", "int full", "int joy int",
        "int taken int", "int crowd int", "int lean int", "int truest", "int oldest", "int enough int",
        "int better int", "int trust int", "int share int", "int nine int int int", "int two int int", "int judge int",
        "int years int int", "int then int int int", "int book int int", "int written int int", "int many int",
        "int round int int", "int kept int int", "int called int int int", "int spoilt int int",
        "int bears int int int int", "int recovers int", "int dearest int int", "int year", "int goes int",
        "int post int", "int seed int", "int image", "int back", "int status int",
    };

    private static long state = 58;

    private static int draw(int below) {
        state = state * 6364136223846793005L + 1442695040888963407L;
        return (int) ((state >>> 33) % below);
    }

    private static String told(Method m) {
        StringBuilder text = new StringBuilder(m.getReturnType() + " " + m.getName());
        for (Class<?> type : m.getParameterTypes()) {
            text.append(' ').append(type);
        }
        return text.toString();
    }

    private static void face() {
        java.util.Set<String> wanted = new java.util.TreeSet<>(java.util.Arrays.asList(FACE));
        java.util.Set<String> open = new java.util.TreeSet<>();
        java.util.Set<String> names = new java.util.TreeSet<>();
        for (Method m : EverybodyHasTheBook.class.getDeclaredMethods()) {
            if (!Modifier.isPrivate(m.getModifiers())) {
                open.add(told(m));
                names.add(m.getName());
            }
        }
        Due.holds("the methods of the face: " + open, open.equals(wanted));
        for (Method m : EverybodyHasTheBook.class.getDeclaredMethods()) {
            boolean hidden = Modifier.isPrivate(m.getModifiers());
            Due.holds("no private method is called " + m.getName(), !hidden || !names.contains(m.getName()));
        }
        for (java.lang.reflect.Field f : EverybodyHasTheBook.class.getDeclaredFields()) {
            Due.holds("field " + f.getName(), Modifier.isPrivate(f.getModifiers()) != f.getName().equals("NONE"));
        }
        for (Class<?> c : EverybodyHasTheBook.class.getDeclaredClasses()) {
            Due.holds(c + " is static", Modifier.isStatic(c.getModifiers()) && !Modifier.isPublic(c.getModifiers()));
            for (Method m : c.getDeclaredMethods()) {
                Due.holds("no method inside is called " + m.getName(), !names.contains(m.getName()));
            }
        }
        Due.is("one constructor", EverybodyHasTheBook.class.getDeclaredConstructors().length, 1);
        Due.holds("public and final", (EverybodyHasTheBook.class.getModifiers() & (Modifier.PUBLIC | Modifier.FINAL))
            == (Modifier.PUBLIC | Modifier.FINAL));
    }

    private static void call(EverybodyHasTheBook x, Method m) {
        Object[] args = new Object[m.getParameterCount()];
        for (int a = 0; a < args.length; a++) {
            long v = draw(3) == 0 ? FAR[draw(FAR.length)] : draw(8);
            args[a] = m.getParameterTypes()[a] == long.class ? (Object) v : (Object) (int) v;
        }
        try {
            m.invoke(x, args);
        } catch (ReflectiveOperationException e) {
            Due.holds(told(m) + java.util.Arrays.toString(args) + " throws " + e.getCause(), false);
        }
    }

    private static void anyCalls() {
        java.util.List<Method> face = new java.util.ArrayList<>();
        for (Method m : EverybodyHasTheBook.class.getDeclaredMethods()) {
            if (Modifier.isPublic(m.getModifiers())) {
                face.add(m);
            }
        }
        face.sort(java.util.Comparator.comparing(AnyCallTest::told));
        for (int run = 0; run < 300; run++) {
            EverybodyHasTheBook x = new EverybodyHasTheBook();
            for (int i = draw(7); i > 0; i--) {
                x.inn(draw(101), 1 + draw(20), draw(100));
                x.goer(draw(6), 1 + draw(30), draw(100));
            }
            for (int c = 0; c < 500; c++) {
                call(x, face.get(draw(face.size())));
            }
        }
    }

    public static void main(String[] args) {
        face();
        anyCalls();
        Due.end();
    }
}
