import java.util.ArrayList;
import java.util.Arrays;
import java.util.List;
import java.util.regex.Matcher;
import java.util.regex.Pattern;

/**
 * The document a second time, in the plainest way and with the whole Java library: heads come one by
 * one, worlds are copied, rows are gone through as lists. RandomRunsTest holds the class against it.
 */
final class Model {
    static final int NONE = -1;

    @SuppressWarnings("serial")
    static final class Refusal extends RuntimeException {
        final int why;

        Refusal(int why) {
            super(null, null, false, false);
            this.why = why;
        }
    }

    static final class I {
        int good, base, rooms, price;
        int said = NONE;
        List<Integer> letters = new ArrayList<>();

        I copy() {
            I c = new I();
            c.good = good;
            c.base = base;
            c.rooms = rooms;
            c.price = price;
            c.said = said;
            c.letters.addAll(letters);
            return c;
        }

        int sum() {
            return letters.stream().mapToInt(v -> v).sum();
        }
    }

    static final class G {
        int kind, heads, a;

        G(int kind, int heads, int a) {
            this.kind = kind;
            this.heads = heads;
            this.a = a;
        }
    }

    static final class World {
        List<I> inns = new ArrayList<>();
        List<G> goers = new ArrayList<>();
        int age = 0;
        int gone = 0;
        int seed = 1;

        World copy() {
            World c = new World();
            inns.forEach(i -> c.inns.add(i.copy()));
            goers.forEach(g -> c.goers.add(new G(g.kind, g.heads, g.a)));
            c.age = age;
            c.gone = gone;
            c.seed = seed;
            return c;
        }

        void write(int bits) {
            for (int i = 0; i < inns.size(); i++) {
                inns.get(i).said = (bits & 1 << i) != 0 ? inns.get(i).good : NONE;
            }
            age = 0;
        }
    }

    /** beds[g][i]: heads of g in i; the last column those outside. */
    static final class Night {
        int[][] beds;
        int[] guests;
        List<I> inns;

        boolean full(int i) {
            return guests[i] == inns.get(i).rooms;
        }

        int joy(int g) {
            int joy = 0;
            for (int i = 0; i < inns.size(); i++) {
                for (int head = 0; head < beds[g][i]; head++) {
                    joy += inns.get(i).good - inns.get(i).price;
                    joy -= full(i) ? 20 : 0;
                }
            }
            return joy - 30 * beds[g][inns.size()];
        }

        int joy() {
            int joy = 0;
            for (int g = 0; g < beds.length; g++) {
                joy += joy(g);
            }
            return joy;
        }

        int taken(int i) {
            return guests[i] * inns.get(i).price;
        }
    }

    static int score(World w, int g, int i) {
        G goer = w.goers.get(g);
        I inn = w.inns.get(i);
        boolean in = inn.said != NONE;
        int asGoer = 100 - inn.price;
        int asBooked = in ? Math.max(inn.said - w.age - w.age, 0) : 0;
        if (goer.kind == 0) {
            return asGoer;
        }
        if (goer.kind == 2) {
            return in ? asBooked - goer.a : asGoer;
        }
        if (goer.kind == 3) {
            return inn.good - inn.price / 2;
        }
        if (goer.kind == 4 && !inn.letters.isEmpty() && inn.letters.size() >= goer.a) {
            return inn.sum() / inn.letters.size();
        }
        return asBooked;
    }

    static int first(World w, int g) {
        int best = NONE;
        for (int i = w.inns.size() - 1; i >= 0; i--) {
            if (best == NONE || score(w, g, i) >= score(w, g, best)) {
                best = i;
            }
        }
        return best;
    }

    static boolean under(int kind, int wanted) {
        int[] above = {NONE, 0, 1, 0, 1, 1};
        while (kind != NONE && kind != wanted) {
            kind = above[kind];
        }
        return kind == wanted;
    }

    static Night empty(World w) {
        Night t = new Night();
        t.inns = w.inns;
        t.guests = new int[w.inns.size()];
        t.beds = new int[w.goers.size()][w.inns.size() + 1];
        return t;
    }

    static void oneHead(World w, Night t, int g) {
        int best = NONE;
        for (int i = 0; i < w.inns.size(); i++) {
            if (!t.full(i) && (best == NONE || score(w, g, i) > score(w, g, best))) {
                best = i;
            }
        }
        if (best == NONE) {
            t.beds[g][w.inns.size()]++;
        } else {
            t.beds[g][best]++;
            t.guests[best]++;
        }
    }

    static List<Integer> order(World w) {
        List<Integer> order = new ArrayList<>();
        for (int g = 0; g < w.goers.size(); g++) {
            order.add(g);
        }
        order.sort((g, h) -> Boolean.compare(w.goers.get(g).kind == 5, w.goers.get(h).kind == 5));
        return order;
    }

    static Night night(World w) {
        Night t = empty(w);
        for (int g : order(w)) {
            for (int head = 0; head < w.goers.get(g).heads; head++) {
                oneHead(w, t, g);
            }
        }
        return t;
    }

    /** What a year brings: {joy of all, joy of each goer .., taken by each inn ..}. */
    static int[] year(World w) {
        Night t = night(w);
        int goers = w.goers.size();
        int[] brought = new int[1 + goers + w.inns.size()];
        brought[0] = t.joy();
        for (int g = 0; g < goers; g++) {
            brought[1 + g] = t.joy(g);
        }
        for (int i = 0; i < w.inns.size(); i++) {
            brought[1 + goers + i] = t.taken(i);
        }
        for (int i = 0; i < w.inns.size(); i++) {
            I inn = w.inns.get(i);
            if (t.guests[i] > 0 && inn.letters.size() < 99) {
                inn.letters.add(inn.said != NONE && inn.good < inn.said ? Math.max(0, inn.good - 10) : inn.good);
            }
            if (t.full(i)) {
                inn.good = Math.max(inn.good - 6, 0);
                inn.price = Math.min(inn.price + inn.price / 4 + 1, 99);
            } else if (t.guests[i] * 2 < inn.rooms) {
                for (int step = 0; step < 3 && inn.good < inn.base; step++) {
                    inn.good++;
                }
                inn.price = Math.max(inn.price - 1, 0);
            }
        }
        w.age = Math.min(w.age + 1, 99);
        w.gone++;
        return brought;
    }

    static int[] years(World w, int n) {
        int[] all = new int[1 + w.goers.size() + w.inns.size()];
        for (int y = 0; y < n; y++) {
            int[] one = year(w);
            for (int i = 0; i < all.length; i++) {
                all[i] += one[i];
            }
        }
        return all;
    }

    static int joyOwn(World w, int n) {
        int[] all = years(w, n);
        int joy = 0;
        for (int g = 0; g < w.goers.size(); g++) {
            joy += w.goers.get(g).kind == 3 ? all[1 + g] : 0;
        }
        return joy;
    }

    // ---- the object

    private World w = new World();
    private World image;
    private final Object[] shelves = new Object[8];
    private final int[] sorts = new int[8];
    private String tape = "";
    private final int[] refused = new int[17];

    private interface Call {
        int run();
    }

    private int small(Call c) {
        try {
            return c.run();
        } catch (Refusal r) {
            refused[10 - r.why]++;
            return r.why;
        }
    }

    private int great(Call c) {
        try {
            return c.run();
        } catch (Refusal r) {
            refused[10 - r.why]++;
            return -1000000 + r.why;
        }
    }

    private static void bad(boolean so) {
        if (so) {
            throw new Refusal(-2);
        }
    }

    private static void refuse(boolean so, int why) {
        if (so) {
            throw new Refusal(why);
        }
    }

    private static void range(int v, int least, int most) {
        bad(v < least || v > most);
    }

    private void isInn(int inn) {
        range(inn, 0, w.inns.size() - 1);
    }

    private void isGoer(int goer) {
        range(goer, 0, w.goers.size() - 1);
    }

    private void isSet(int bits) {
        range(bits, 0, (1 << w.inns.size()) - 1);
    }

    public int row(int s, int sort, int n) {
        return small(() -> {
            range(s, 0, 7);
            range(sort, 0, 4);
            range(n, 0, 40);
            shelves[s] = new long[n];
            sorts[s] = sort;
            return 1;
        });
    }

    private long[] rowIn(int s) {
        range(s, 0, 7);
        refuse(shelves[s] instanceof Integer, -3);
        refuse(shelves[s] == null, -4);
        return (long[]) shelves[s];
    }

    public int set(int s, int i, long v) {
        return small(() -> {
            long[] row = rowIn(s);
            range(i, 0, row.length - 1);
            int sort = sorts[s];
            row[i] = sort == 0 ? (byte) v : sort == 1 ? (short) v : sort == 2 ? (int) v : sort == 3 ? v : v == 0 ? 0 : 1;
            return 1;
        });
    }

    public int copy(int p, int q, int i, int j, int n) {
        return small(() -> {
            range(p, 0, 7);
            range(q, 0, 7);
            refuse(shelves[p] instanceof Integer || shelves[q] instanceof Integer, -3);
            refuse(shelves[p] != null && shelves[q] != null && sorts[p] != sorts[q], -3);
            refuse(shelves[p] == null || shelves[q] == null, -4);
            long[] from = ((long[]) shelves[p]).clone();
            long[] to = (long[]) shelves[q];
            bad(n < 0 || i < 0 || j < 0 || (long) i + n > from.length || (long) j + n > to.length);
            for (int k = 0; k < n; k++) {
                to[j + k] = from[i + k];
            }
            return n;
        });
    }

    public long element(int s, int i) {
        boolean there = s >= 0 && s < 8 && shelves[s] instanceof long[] row && i >= 0 && i < row.length;
        return there ? ((long[]) shelves[s])[i] : 0;
    }

    public int holds(int s) {
        if (s < 0 || s > 7 || shelves[s] == null) {
            return NONE;
        }
        return shelves[s] instanceof Integer g ? 10 + g : sorts[s];
    }

    public int show(int s, int goer) {
        return small(() -> {
            range(s, 0, 7);
            range(goer, NONE, w.goers.size() - 1);
            shelves[s] = goer == NONE ? null : (Object) goer;
            return 1;
        });
    }

    public int says(int s, int kind) {
        return small(() -> {
            range(s, 0, 7);
            range(kind, 0, 5);
            refuse(shelves[s] instanceof long[], -3);
            refuse(shelves[s] == null, -4);
            int g = (Integer) shelves[s];
            refuse(!under(w.goers.get(g).kind, kind), -3);
            return kind == 0 ? w.goers.get(g).heads : first(w, g);
        });
    }

    public int inn(int good, int rooms, int price) {
        return small(() -> {
            range(good, 0, 100);
            range(rooms, 1, 20);
            range(price, 0, 99);
            refuse(w.inns.size() == 6, -6);
            w.inns.add(newInn(good, rooms, price));
            return w.inns.size() - 1;
        });
    }

    private static I newInn(int good, int rooms, int price) {
        I inn = new I();
        inn.good = good;
        inn.base = good;
        inn.rooms = rooms;
        inn.price = price;
        return inn;
    }

    public int goer(int kind, int heads, int a) {
        return small(() -> {
            range(kind, 0, 5);
            range(heads, 1, 30);
            range(a, 0, 99);
            refuse(w.goers.size() == 6, -6);
            w.goers.add(new G(kind, heads, a));
            return w.goers.size() - 1;
        });
    }

    public int change(int inn, int what, int v) {
        return small(() -> {
            isInn(inn);
            range(what, 0, 1);
            range(v, 0, 100 - what);
            I changed = w.inns.get(inn);
            int was = what == 0 ? changed.good : changed.price;
            changed.good = what == 0 ? v : changed.good;
            changed.price = what == 1 ? v : changed.price;
            return was;
        });
    }

    public int say(int inn, int v) {
        return small(() -> {
            isInn(inn);
            range(v, NONE, 100);
            int was = w.inns.get(inn).said;
            w.inns.get(inn).said = v;
            return was;
        });
    }

    public int write(int inns) {
        return small(() -> {
            isSet(inns);
            w.write(inns);
            return Integer.bitCount(inns);
        });
    }

    public int letter(int inn, int v) {
        return small(() -> {
            isInn(inn);
            range(v, 0, 100);
            refuse(w.inns.get(inn).letters.size() == 99, -6);
            w.inns.get(inn).letters.add(v);
            return w.inns.get(inn).letters.size();
        });
    }

    public int age(int v) {
        return small(() -> {
            range(v, 0, 99);
            int was = w.age;
            w.age = v;
            return was;
        });
    }

    public int heads(int goer, int v) {
        return small(() -> {
            isGoer(goer);
            range(v, 1, 30);
            int was = w.goers.get(goer).heads;
            w.goers.get(goer).heads = v;
            return was;
        });
    }

    public int feed(int letter) {
        return small(() -> {
            range(letter, 0, 255);
            refuse(tape.length() == 250, -6);
            tape += (char) letter;
            return tape.length();
        });
    }

    public int wipe() {
        int was = tape.length();
        tape = "";
        return was;
    }

    @SuppressWarnings("serial")
    private static final class Fault extends RuntimeException {
        final int place;

        Fault(int place) {
            super(null, null, false, false);
            this.place = place;
        }
    }

    /** Reads by a list of tokens that is made beforehand. */
    private static final class Texts {
        final List<String> tokens = new ArrayList<>();
        final List<Integer> places = new ArrayList<>();
        int at = 0;

        Texts(String text) {
            Matcher m = Pattern.compile("(?s)[a-z]+|[0-9]+|[^ ]").matcher(text);
            while (m.find()) {
                tokens.add(m.group());
                places.add(m.start());
            }
            tokens.add("");
            places.add(text.length());
        }

        String ahead() {
            return tokens.get(at);
        }

        Fault fault() {
            return new Fault(places.get(at));
        }

        void need(boolean so) {
            if (!so) {
                throw fault();
            }
        }

        boolean number() {
            return ahead().matches("[0-9]+");
        }

        int look(int least, int most) {
            need(number() && ahead().length() <= 3);
            int v = Integer.parseInt(ahead());
            need(v >= least && v <= most);
            return v;
        }

        int take(int least, int most) {
            int v = look(least, most);
            at++;
            return v;
        }
    }

    private static void statement(Texts t, World d) {
        switch (t.ahead()) {
            case "inn" -> {
                t.need(d.inns.size() < 6);
                t.at++;
                d.inns.add(newInn(t.take(0, 100), t.take(1, 20), t.take(0, 99)));
                if (t.ahead().equals("said")) {
                    t.at++;
                    d.inns.get(d.inns.size() - 1).said = t.take(0, 100);
                }
            }
            case "goer" -> {
                t.need(d.goers.size() < 6);
                t.at++;
                d.goers.add(new G(t.take(0, 5), t.take(1, 30), t.take(0, 99)));
            }
            case "letter" -> {
                t.at++;
                I inn = d.inns.get(t.look(0, d.inns.size() - 1));
                t.need(inn.letters.size() < 99);
                t.at++;
                inn.letters.add(t.take(0, 100));
            }
            case "age" -> {
                t.at++;
                d.age = t.take(0, 99);
            }
            case "write" -> {
                t.at++;
                int bits = 0;
                do {
                    int inn = t.look(0, d.inns.size() - 1);
                    t.need((bits & 1 << inn) == 0);
                    bits |= 1 << inn;
                    t.at++;
                } while (t.number());
                d.write(bits);
            }
            default -> throw t.fault();
        }
    }

    public int valley() {
        World d = w.copy();
        Texts t = new Texts(tape);
        tape = "";
        try {
            int statements = 0;
            while (true) {
                statement(t, d);
                statements++;
                if (t.ahead().isEmpty()) {
                    break;
                }
                t.need(t.ahead().equals(";"));
                t.at++;
            }
            w = d;
            return statements;
        } catch (Fault f) {
            refused[12]++;
            return -20 - f.place;
        }
    }

    public int innOf(int inn, int what) {
        return small(() -> {
            isInn(inn);
            range(what, 0, 6);
            I i = w.inns.get(inn);
            return new int[] {i.good, i.base, i.rooms, i.price, i.said, i.letters.size(), i.sum()}[what];
        });
    }

    public int goerOf(int goer, int what) {
        return small(() -> {
            isGoer(goer);
            range(what, 0, 2);
            G g = w.goers.get(goer);
            return new int[] {g.kind, g.heads, g.a}[what];
        });
    }

    public int score(int goer, int inn) {
        return great(() -> {
            isGoer(goer);
            isInn(inn);
            return score(w, goer, inn);
        });
    }

    public int sleeps(int goer, int inn) {
        return small(() -> {
            isGoer(goer);
            isInn(inn);
            return night(w).beds[goer][inn];
        });
    }

    public int guests(int inn) {
        return small(() -> {
            isInn(inn);
            return night(w).guests[inn];
        });
    }

    public int out(int goer) {
        return small(() -> {
            range(goer, NONE, w.goers.size() - 1);
            int all = 0;
            for (int g = 0; g < w.goers.size(); g++) {
                all += goer == NONE || goer == g ? night(w).beds[g][w.inns.size()] : 0;
            }
            return all;
        });
    }

    public int full() {
        int bits = 0;
        for (int i = 0; i < w.inns.size(); i++) {
            bits += night(w).full(i) ? 1 << i : 0;
        }
        return bits;
    }

    public int joy(int goer) {
        return great(() -> {
            range(goer, NONE, w.goers.size() - 1);
            return goer == NONE ? night(w).joy() : night(w).joy(goer);
        });
    }

    public int taken(int inn) {
        return small(() -> {
            isInn(inn);
            return night(w).taken(inn);
        });
    }

    private static int crowd(World v, int inn) {
        int crowd = 0;
        for (int g = 0; g < v.goers.size(); g++) {
            crowd += under(v.goers.get(g).kind, 1) && first(v, g) == inn ? v.goers.get(g).heads : 0;
        }
        return crowd;
    }

    public int crowd(int inn) {
        return small(() -> {
            isInn(inn);
            return crowd(w, inn);
        });
    }

    public int lean(int inn) {
        return great(() -> {
            isInn(inn);
            I i = w.inns.get(inn);
            refuse(i.letters.isEmpty(), -5);
            return i.sum() / i.letters.size() - i.good;
        });
    }

    private int truestOf() {
        refuse(w.inns.isEmpty(), -5);
        int best = 0;
        for (int i = 1; i < w.inns.size(); i++) {
            I a = w.inns.get(i);
            I b = w.inns.get(best);
            best = a.good - a.price > b.good - b.price ? i : best;
        }
        return best;
    }

    public int truest() {
        return small(this::truestOf);
    }

    public int oldest() {
        int best = NONE;
        for (int far = 0; far <= 100; far++) {
            for (int i = w.inns.size() - 1; i >= 0; i--) {
                I inn = w.inns.get(i);
                if (inn.said != NONE && Math.abs(inn.said - inn.good) == far) {
                    best = i;
                }
            }
        }
        return best;
    }

    public int enough(int inn) {
        return small(() -> {
            isInn(inn);
            World v = w.copy();
            for (int rooms = 1; rooms <= 20; rooms++) {
                v.inns.get(inn).rooms = rooms;
                if (!night(v).full(inn)) {
                    return rooms;
                }
            }
            return NONE;
        });
    }

    public int better(int goer) {
        return small(() -> {
            isGoer(goer);
            World v = w.copy();
            int[] joys = new int[6];
            for (int kind = 0; kind < 6; kind++) {
                v.goers.get(goer).kind = kind;
                joys[kind] = night(v).joy(goer);
            }
            int most = Arrays.stream(joys).max().getAsInt();
            int kind = 0;
            while (joys[kind] != most) {
                kind++;
            }
            return kind;
        });
    }

    public int trust(int inn) {
        return small(() -> {
            isInn(inn);
            int last = NONE;
            for (int age = 0; age <= 99; age++) {
                World v = w.copy();
                v.age = age;
                last = crowd(v, inn) > 0 ? age : last;
            }
            return last;
        });
    }

    public int share(int goer) {
        return small(() -> {
            isGoer(goer);
            int inn = truestOf();
            return night(w).beds[goer][inn] * 100 / w.goers.get(goer).heads;
        });
    }

    public int nine(int inn, int n, int v) {
        return great(() -> {
            isInn(inn);
            range(n, 1, 40);
            range(v, 0, 100);
            I i = w.inns.get(inn);
            return (i.sum() + n * v) / (i.letters.size() + n) - i.good;
        });
    }

    public int two(int inns, int others) {
        return great(() -> {
            isSet(inns);
            isSet(others);
            World one = w.copy();
            World other = w.copy();
            one.write(inns);
            other.write(others);
            Night t = empty(w);
            for (int g : order(w)) {
                int heads = w.goers.get(g).heads;
                int half = under(w.goers.get(g).kind, 1) ? heads / 2 : 0;
                for (int head = 0; head < heads; head++) {
                    oneHead(head < heads - half ? one : other, t, g);
                }
            }
            return t.joy();
        });
    }

    public int judge(int s) {
        return small(() -> {
            long[] row = rowIn(s);
            bad(row.length < w.inns.size() * w.goers.size());
            for (int k = 0; k < w.inns.size() * w.goers.size(); k++) {
                if (row[k] != night(w).beds[k / w.inns.size()][k % w.inns.size()]) {
                    return k;
                }
            }
            return NONE;
        });
    }

    public int years(int n, int goer) {
        return great(() -> {
            range(n, 1, 12);
            range(goer, NONE, w.goers.size() - 1);
            return years(w.copy(), n)[1 + goer];
        });
    }

    public int then(int n, int inn, int what) {
        return small(() -> {
            range(n, 1, 12);
            isInn(inn);
            range(what, 0, 2);
            World v = w.copy();
            int taken = years(v, n)[1 + v.goers.size() + inn];
            return what == 0 ? v.inns.get(inn).good : what == 1 ? v.inns.get(inn).price : taken;
        });
    }

    private int writtenJoy(int n, int bits) {
        World v = w.copy();
        v.write(bits);
        return years(v, n)[0];
    }

    /** {bits, joy}. */
    private int[] best(int n, int k) {
        int[] best = null;
        for (int bits = 0; bits < 1 << w.inns.size(); bits++) {
            if (Integer.bitCount(bits) <= k) {
                int joy = writtenJoy(n, bits);
                best = best == null || joy > best[1] ? new int[] {bits, joy} : best;
            }
        }
        return best;
    }

    public int book(int n, int k) {
        return small(() -> {
            range(n, 1, 12);
            range(k, 0, 6);
            return best(n, k)[0];
        });
    }

    public int written(int n, int inns) {
        return great(() -> {
            range(n, 1, 12);
            isSet(inns);
            return writtenJoy(n, inns);
        });
    }

    public int many(int n) {
        return small(() -> {
            range(n, 1, 12);
            int all = best(n, w.inns.size())[1];
            int k = 0;
            while (best(n, k)[1] != all) {
                k++;
            }
            return k;
        });
    }

    private static void rows(World v, List<Integer> gone, int joy, int left, List<List<Integer>> found) {
        if (left == 0) {
            List<Integer> row = new ArrayList<>(gone);
            row.add(joy);
            found.add(row);
            return;
        }
        for (int inn = NONE; inn < v.inns.size(); inn++) {
            World u = v.copy();
            if (inn != NONE) {
                u.inns.get(inn).said = u.inns.get(inn).good;
            }
            int one = year(u)[0];
            gone.add(inn);
            rows(u, gone, joy + one, left - 1, found);
            gone.remove(gone.size() - 1);
        }
    }

    public int round(int n, int i) {
        return great(() -> {
            range(n, 1, 3);
            range(i, NONE, n - 1);
            List<List<Integer>> found = new ArrayList<>();
            rows(w.copy(), new ArrayList<>(), 0, n, found);
            List<Integer> best = found.get(0);
            for (List<Integer> row : found) {
                best = row.get(n) > best.get(n) ? row : best;
            }
            return best.get(i == NONE ? n : i);
        });
    }

    public int kept(int n, int inn) {
        return great(() -> {
            range(n, 1, 12);
            isInn(inn);
            refuse(w.inns.get(inn).said == NONE, -5);
            World without = w.copy();
            without.inns.get(inn).said = NONE;
            return joyOwn(without, n) - joyOwn(w.copy(), n);
        });
    }

    public int called(int n, int inn, int v) {
        return great(() -> {
            range(n, 1, 12);
            isInn(inn);
            range(v, 0, 100);
            World so = w.copy();
            so.inns.get(inn).said = v;
            return years(so, n)[0] - years(w.copy(), n)[0];
        });
    }

    public int spoilt(int inn, int g) {
        return small(() -> {
            isInn(inn);
            range(g, 0, 100);
            World v = w.copy();
            for (int y = 1; y <= 30; y++) {
                year(v);
                if (v.inns.get(inn).good < g) {
                    return y;
                }
            }
            return NONE;
        });
    }

    public int bears(int goer, int inn, int n, int g) {
        return small(() -> {
            isGoer(goer);
            isInn(inn);
            range(n, 1, 12);
            range(g, 0, 100);
            int most = NONE;
            for (int heads = 1; heads <= 30; heads++) {
                World v = w.copy();
                v.goers.get(goer).heads = heads;
                boolean stays = true;
                for (int y = 0; y < n; y++) {
                    year(v);
                    stays &= v.inns.get(inn).good >= g;
                }
                most = stays ? heads : most;
            }
            return most;
        });
    }

    public int recovers(int inn) {
        return small(() -> {
            isInn(inn);
            World v = w.copy();
            v.inns.forEach(i -> i.said = NONE);
            for (int y = 1; y <= 30; y++) {
                year(v);
                if (v.inns.get(inn).good >= v.inns.get(inn).base) {
                    return y;
                }
            }
            return NONE;
        });
    }

    public int dearest(int n, int inn) {
        return small(() -> {
            range(n, 1, 12);
            isInn(inn);
            int[] taken = new int[100];
            for (int price = 0; price < 100; price++) {
                World v = w.copy();
                v.inns.get(inn).price = price;
                taken[price] = years(v, n)[1 + v.goers.size() + inn];
            }
            int best = 99;
            for (int price = 99; price >= 0; price--) {
                best = taken[price] >= taken[best] ? price : best;
            }
            return best;
        });
    }

    public int year() {
        return year(w)[0];
    }

    public int goes(int n) {
        return great(() -> {
            range(n, 1, 12);
            return years(w, n)[0];
        });
    }

    private int draw(int below) {
        w.seed = (int) ((w.seed * 1103515245L + 12345L) & 0xffffffffL);
        return (int) ((w.seed & 0xffffffffL) / 65536 % below);
    }

    public int post(int n) {
        return small(() -> {
            range(n, 1, 40);
            refuse(w.inns.isEmpty(), -5);
            int came = 0;
            for (int k = 0; k < n; k++) {
                I inn = w.inns.get(draw(w.inns.size()));
                int v = inn.good + draw(21) - 10;
                if (inn.letters.size() < 99) {
                    inn.letters.add(v < 0 ? 0 : v > 100 ? 100 : v);
                    came++;
                }
            }
            return came;
        });
    }

    public int seed(int v) {
        int was = w.seed;
        w.seed = v;
        return was;
    }

    public int image() {
        image = w.copy();
        return 1;
    }

    public int back() {
        return small(() -> {
            refuse(image == null, -5);
            w = image.copy();
            for (int s = 0; s < 8; s++) {
                if (shelves[s] instanceof Integer g && g >= w.goers.size()) {
                    shelves[s] = null;
                }
            }
            return 1;
        });
    }

    public int status(int what) {
        int bits = 0;
        for (int i = 0; i < w.inns.size(); i++) {
            bits += w.inns.get(i).said != NONE ? 1 << i : 0;
        }
        int held = 0;
        for (Object shelf : shelves) {
            held += shelf != null ? 1 : 0;
        }
        int[] told = {w.inns.size(), w.goers.size(), w.age, bits, w.inns.stream().mapToInt(i -> i.rooms).sum(),
            w.goers.stream().mapToInt(g -> g.heads).sum(), w.gone, tape.length(), w.seed, held};
        if (what >= 0 && what < told.length) {
            return told[what];
        }
        return what >= 12 && what <= 16 ? refused[what] : NONE;
    }
}
