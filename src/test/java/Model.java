import java.util.ArrayDeque;
import java.util.ArrayList;
import java.util.Arrays;
import java.util.List;

/**
 * The document told a second time, in another way than the class does it: states are copied for each MINUTE,
 * THE PLATE is the list of places it gathered, a text is split into signs before it is read.
 */
final class Model {
    static final int NONE = -1, UNKNOWN = -1000000001, OUTSIDE = -1000000002, NOT = -1000000003, FULL = -1000000004;

    record Mount(boolean is, int clock, int axis, int limit, List<Integer> worm, int jumpT, int jumpS,
                 List<int[]> stars, int g) {
        static Mount none() {
            return new Mount(false, 0, 0, 0, List.of(0), NONE, 0, List.of(), 1);
        }
    }

    record State(int t, int e, int n, boolean lost, boolean shut, int we, int wn, List<int[]> light) {
        static State fresh(int t) {
            return new State(t, 0, 0, false, false, 0, 0, List.of());
        }

        State waiting(int we, int wn) {
            return new State(t, e, n, lost, shut, we, wn, light);
        }

        State shut(boolean is) {
            return new State(t, e, n, lost, is, we, wn, light);
        }

        State danced(int de, int dn) {
            return new State(t, e + de, n + dn, lost, shut, we, wn, light);
        }

        int tail() {
            int most = 0;
            for (int[] a : light) {
                for (int[] b : light) {
                    most = Math.max(most, Math.max(a[0] - b[0], a[1] - b[1]));
                }
            }
            return most;
        }
    }

    private StringBuilder text = new StringBuilder();
    private Mount m = Mount.none();
    private int faultPlace = NONE;
    private State s = State.fresh(0);
    private final ArrayDeque<State> undo = new ArrayDeque<>();
    private final List<int[]> seen = new ArrayList<>();
    private final List<int[]> tails = new ArrayList<>();
    private final List<int[]> book = new ArrayList<>();
    private long seed;
    private final State[] image = new State[2];
    private final long[] imageSeed = new long[2];

    // ---- the mount

    int feed(int letter) {
        if (letter < 0 || letter > 255) {
            return OUTSIDE;
        }
        if (text.length() == 230) {
            return FULL;
        }
        text.append((char) letter);
        return text.length();
    }

    /** A sign of a text: a number (with its figures) or one letter; the end is the letter 0 with no figures, kind 'e'. */
    private record Sign(char kind, char letter, String figures, int place) {
    }

    private static List<Sign> signs(String text) {
        List<Sign> all = new ArrayList<>();
        int i = 0;
        while (i < text.length()) {
            char c = text.charAt(i);
            if ("0123456789".indexOf(c) >= 0) {
                int j = i;
                while (j < text.length() && "0123456789".indexOf(text.charAt(j)) >= 0) {
                    j++;
                }
                all.add(new Sign('n', '0', text.substring(i, j), i));
                i = j;
            } else {
                if (c != ' ') {
                    all.add(new Sign('c', c, "", i));
                }
                i++;
            }
        }
        all.add(new Sign('e', ' ', "", text.length()));
        return all;
    }

    private static final class Faulty extends RuntimeException {
        final int number;
        final int place;

        Faulty(int number, int place) {
            this.number = number;
            this.place = place;
        }
    }

    private static int value(Sign sign, int[] bounds) {
        if (sign.kind != 'n') {
            throw new Faulty(1, sign.place);
        }
        if (sign.figures.length() > 3) {
            throw new Faulty(2, sign.place);
        }
        int v = Integer.parseInt(sign.figures);
        if (v < bounds[0] || v > bounds[1]) {
            throw new Faulty(2, sign.place);
        }
        return v;
    }

    private static void letter(Sign sign, char due) {
        if (sign.kind != 'c' || sign.letter != due) {
            throw new Faulty(1, sign.place);
        }
    }

    private static final String WORDS = "mwjsb";
    private static final int[][][] BOUNDS = {
        {{0, 18}, {0, 18}, {1, 999}}, {}, {{0, 999}, {0, 198}}, {{0, 99}, {1, 9}}, {{1, 9}}};

    private static Mount read(String text) {
        List<Sign> signs = signs(text);
        int at = 0;
        int[] times = new int[5];
        int clock = 0, axis = 0, limit = 0, jumpT = NONE, jumpS = 0, g = 1;
        List<Integer> worm = List.of(0);
        List<int[]> stars = new ArrayList<>();
        boolean is = false;
        while (signs.get(at).kind != 'e') {
            Sign word = signs.get(at++);
            int w = word.kind == 'c' ? WORDS.indexOf(word.letter) : -1;
            if (w < 0 || (!is && w != 0)) {
                throw new Faulty(1, word.place);
            }
            times[w]++;
            if (times[w] > (word.letter == 's' ? 6 : 1)) {
                throw new Faulty(3, word.place);
            }
            is = true;
            int[] v = new int[3];
            for (int i = 0; i < BOUNDS[w].length; i++) {
                v[i] = value(signs.get(at++), BOUNDS[w][i]);
            }
            if (word.letter == 'w') {
                worm = new ArrayList<>();
                worm.add(value(signs.get(at++), new int[] {0, 18}) - 9);
                while (signs.get(at).kind == 'c' && signs.get(at).letter == ',' && worm.size() < 9) {
                    at++;
                    worm.add(value(signs.get(at++), new int[] {0, 18}) - 9);
                }
            }
            letter(signs.get(at++), ';');
            switch (word.letter) {
                case 'm' -> { clock = v[0] - 9; axis = v[1] - 9; limit = v[2]; }
                case 'j' -> { jumpT = v[0]; jumpS = v[1] - 99; }
                case 's' -> stars.add(new int[] {v[0], v[1]});
                case 'b' -> g = v[0];
                default -> { }
            }
        }
        return is ? new Mount(true, clock, axis, limit, worm, jumpT, jumpS, stars, g) : Mount.none();
    }

    int mount() {
        String whole = text.toString();
        text = new StringBuilder();
        faultPlace = NONE;
        try {
            m = read(whole);
        } catch (Faulty f) {
            faultPlace = f.place;
            return -10 - f.number;
        }
        s = State.fresh(0);
        undo.clear();
        tear();
        Arrays.fill(image, null);
        return m.stars.size();
    }

    int fault() {
        return faultPlace;
    }

    int told(int what) {
        int[] all = {m.is ? 1 : 0, m.clock + 9, m.axis + 9, m.limit, m.worm.size(), m.jumpT, m.jumpS + 99, m.g,
            m.stars.size(), text.length(), s.t, s.e + 10000, s.n + 10000, s.lost ? 1 : 0, s.shut ? 1 : 0,
            s.light.size(), s.tail(), seen.size(), tails.size(), book.size(), undo.size()};
        return what < 0 || what >= all.length ? OUTSIDE : all[what];
    }

    int worm(int i) {
        return i < 0 || i >= m.worm.size() ? OUTSIDE : m.worm.get(i) + 9;
    }

    int star(int star, int what) {
        if (star < 0 || star >= m.stars.size()) {
            return UNKNOWN;
        }
        return what < 0 || what > 1 ? OUTSIDE : m.stars.get(star)[what];
    }

    // ---- one MINUTE

    private State next(State a) {
        int e = a.e + a.we * m.g + m.clock + m.worm.get(a.t % m.worm.size());
        if (a.t == m.jumpT) {
            e += m.jumpS;
        }
        int n = a.n + a.wn * m.g + m.axis;
        boolean lost = e > m.limit || e < -m.limit || n > m.limit || n < -m.limit;
        List<int[]> light = a.light;
        if (!lost && !a.shut) {
            light = new ArrayList<>(a.light);
            light.add(new int[] {e, n});
        }
        return new State(a.t + 1, e, n, lost, a.shut, 0, 0, light);
    }

    private State unguided(State a, int n) {
        for (int i = 0; i < n && !a.lost; i++) {
            a = next(a);
        }
        return a;
    }

    /** Places are cut by their size, the sign is put afterwards. */
    private int times(int place, int h, int f) {
        int size = Math.abs(place);
        if (size <= h) {
            return 0;
        }
        int presses = (size * f - size * f % 10) / 10;
        presses = (presses - presses % m.g) / m.g;
        return place > 0 ? -presses : presses;
    }

    private State ruled(State a, int h, int f) {
        return a.waiting(times(a.e, h, f), times(a.n, h, f));
    }

    private boolean isPressed(State a) {
        return a.we != 0 || a.wn != 0;
    }

    // ---- what is done

    private int refused(boolean outside, boolean full) {
        if (outside) {
            return OUTSIDE;
        }
        if (!m.is || s.lost) {
            return NOT;
        }
        return full && s.t > 9000 ? FULL : 0;
    }

    private void done(State then) {
        undo.addLast(s);
        if (undo.size() > 20) {
            undo.removeFirst();
        }
        s = then;
    }

    int minute(int n) {
        int no = refused(n < 1 || n > 99, true);
        if (no != 0) {
            return no;
        }
        done(unguided(s, n));
        return s.e + 10000;
    }

    int press(int east, int north) {
        int no = refused(Math.abs((long) east) > 99 || Math.abs((long) north) > 99, false);
        if (no != 0) {
            return no;
        }
        done(s.waiting(east, north));
        return 1;
    }

    int rule(int h, int f, int n) {
        int no = refused(h < 0 || h > 99 || f < 0 || f > 20 || n < 1 || n > 99, true);
        if (no != 0) {
            return no;
        }
        int pressed = 0;
        State a = s;
        while (n-- > 0 && !a.lost) {
            State b = ruled(a, h, f);
            pressed += isPressed(b) ? 1 : 0;
            a = next(b);
        }
        done(a);
        return pressed;
    }

    int shut(boolean is) {
        if (!m.is) {
            return NOT;
        }
        done(s.shut(is));
        return undo.getLast().shut ? 1 : 0;
    }

    int plate() {
        if (!m.is) {
            return NOT;
        }
        done(State.fresh(s.t));
        return undo.getLast().tail();
    }

    private int draw(int n) {
        seed = Math.floorMod(seed * 1103515245L + 12345L, 1L << 31);
        return (int) (seed / 65536 % n);
    }

    int drift(int n) {
        int no = refused(n < 1 || n > 99, true);
        if (no != 0) {
            return no;
        }
        State a = s;
        for (int i = 0; i < n && !a.lost; i++) {
            int east = draw(5) - 2;
            int north = draw(5) - 2;
            a = next(a.danced(east, north));
        }
        done(a);
        return s.e + 10000;
    }

    int undo() {
        if (undo.isEmpty()) {
            return NOT;
        }
        s = undo.removeLast();
        return undo.size();
    }

    // ---- tried

    int where(int n, int what) {
        if (n < 0 || n > 999 || what < 0 || what > 1) {
            return OUTSIDE;
        }
        if (!m.is) {
            return NOT;
        }
        State a = unguided(s, n);
        return 10000 + (what == 0 ? a.e : a.n);
    }

    int lostWhen() {
        if (!m.is || s.lost) {
            return NOT;
        }
        State a = s;
        for (int i = 0; i < 999; i++) {
            int number = a.t;
            a = next(a.shut(true));
            if (a.lost) {
                return number;
            }
        }
        return NONE;
    }

    int stretch(int d) {
        if (d < 0 || d > 999) {
            return OUTSIDE;
        }
        if (!m.is) {
            return NOT;
        }
        int most = 0;
        State a = State.fresh(s.t);
        int[] span = {9999, -9999, 9999, -9999};
        for (int n = 1; n <= 999 && !a.lost; n++) {
            a = next(a.shut(true));
            span = new int[] {Math.min(span[0], a.e), Math.max(span[1], a.e), Math.min(span[2], a.n), Math.max(span[3], a.n)};
            if (!a.lost && span[1] - span[0] <= d && span[3] - span[2] <= d) {
                most = n;
            }
        }
        return most;
    }

    /** TAIL and pressed MINUTES. */
    private int[] byRule(int h, int f, int n, int nodFrom, int nodTo) {
        State a = State.fresh(s.t);
        int pressed = 0;
        for (int i = 0; i < n && !a.lost; i++) {
            State b = i >= nodFrom && i < nodTo ? a.waiting(0, 0) : ruled(a, h, f);
            pressed += isPressed(b) ? 1 : 0;
            a = next(b);
        }
        return new int[] {a.lost ? 9999 : a.tail(), pressed};
    }

    int bestRule(int n, int what) {
        if (n < 1 || n > 200 || what < 0 || what > 1) {
            return OUTSIDE;
        }
        if (!m.is) {
            return NOT;
        }
        List<int[]> all = new ArrayList<>();
        for (int h = 9; h >= 0; h--) {
            for (int f = 10; f >= 1; f--) {
                int[] a = byRule(h, f, n, 0, 0);
                all.add(new int[] {a[0], a[1], h, f});
            }
        }
        all.sort(Arrays::compare);
        return what == 1 ? all.get(0)[0] : 100 * all.get(0)[2] + all.get(0)[3];
    }

    int nodded(int h, int f, int n, int k, int d, int i) {
        if (h < 0 || h > 99 || f < 0 || f > 20 || n < 1 || n > 60 || k < 1 || k > 20 || d < 0 || d > 9999) {
            return OUTSIDE;
        }
        if (!m.is) {
            return NOT;
        }
        List<Integer> firsts = new ArrayList<>();
        for (int first = 0; first + k <= n; first++) {
            if (byRule(h, f, n, first, first + k)[0] == d) {
                firsts.add(first);
            }
        }
        if (i == NONE) {
            return firsts.size();
        }
        return i < 0 || i >= firsts.size() ? NONE : firsts.get(i);
    }

    int guide(int b) {
        if (b < 1 || b > 9) {
            return OUTSIDE;
        }
        List<int[]> fit = new ArrayList<>();
        for (int i = 0; i < m.stars.size(); i++) {
            if (m.stars.get(i)[1] >= b) {
                fit.add(new int[] {m.stars.get(i)[0], -m.stars.get(i)[1], i});
            }
        }
        fit.sort(Arrays::compare);
        return fit.isEmpty() ? NONE : fit.get(0)[2];
    }

    int turns(int r, int n) {
        if (r < 0 || r > 99 || n < 0 || n > 999) {
            return OUTSIDE;
        }
        return m.is ? r * Math.max(m.axis, -m.axis) * n / 100 : NOT;
    }

    int stop(int w) {
        int no = refused(w < 0 || w > 999, false);
        if (no != 0) {
            return no;
        }
        State a = s.shut(false);
        int more = 0;
        while (a.light.size() < w) {
            a = next(a);
            more++;
            if (a.lost) {
                return NONE;
            }
        }
        return more;
    }

    int nods(int n, int q) {
        if (n < 0 || n > 99 || q < 0 || q > 100) {
            return OUTSIDE;
        }
        return n == 0 ? 1000000000 : (int) ((long) nods(n - 1, q) * (100 - q) / 100);
    }

    // ---- what was seen

    int see(int t, int d) {
        if (t < 0 || t > 999 || d < -150 || d > 150) {
            return OUTSIDE;
        }
        if (seen.size() == 10) {
            return FULL;
        }
        seen.add(new int[] {t, d});
        return seen.size();
    }

    /** The rates that a worm of this length can have at a place. */
    private List<Integer> rates(int length, int place) {
        List<Integer> fit = new ArrayList<>();
        for (int v = -9; v <= 9; v++) {
            fit.add(v);
        }
        for (int[] one : seen) {
            if (one[0] % length == place) {
                int rate = one[1] - m.clock - (one[0] == m.jumpT ? m.jumpS : 0);
                fit.removeIf(v -> v != rate);
            }
        }
        return fit;
    }

    int fits(int i, int what) {
        if (i < 0 || i >= m.worm.size() || what < 0 || what > 1) {
            return OUTSIDE;
        }
        List<Integer> fit = rates(m.worm.size(), i);
        if (what == 0) {
            return fit.size();
        }
        return fit.isEmpty() ? NONE : fit.get(0) + 9;
    }

    int periods() {
        int set = 0;
        for (int length = 1; length <= 9; length++) {
            boolean can = true;
            for (int place = 0; place < length; place++) {
                can &= !rates(length, place).isEmpty();
            }
            set += can ? 1 << length : 0;
        }
        return set;
    }

    int look() {
        if (!m.is) {
            return NOT;
        }
        for (int i = 0; i < 99; i++) {
            int t = s.t + i;
            if (seen.stream().noneMatch(one -> one[0] % m.worm.size() == t % m.worm.size())) {
                return t;
            }
        }
        return NONE;
    }

    int tail(int a, int b, int by) {
        if (a < 0 || b > 999 || a >= b || by < -9000 || by > 9000) {
            return OUTSIDE;
        }
        if (tails.size() == 6) {
            return FULL;
        }
        tails.add(new int[] {a, b, by});
        return tails.size();
    }

    int axes() {
        int set = 0;
        for (int k = 0; k < 19; k++) {
            boolean fit = true;
            for (int[] one : tails) {
                int north = 0;
                for (int t = one[0]; t < one[1]; t++) {
                    north += k - 9;
                }
                fit &= north == one[2];
            }
            set += fit ? 1 << k : 0;
        }
        return set;
    }

    int write(int east, int north) {
        if (east < -2000 || east > 2000 || north < -2000 || north > 2000) {
            return OUTSIDE;
        }
        if (book.size() == 15) {
            return FULL;
        }
        book.add(new int[] {east, north});
        return book.size();
    }

    int tear() {
        int had = seen.size() + tails.size() + book.size();
        seen.clear();
        tails.clear();
        book.clear();
        return had;
    }

    int judge() {
        for (int i = 0; i < book.size(); i++) {
            if (!Arrays.equals(book.get(i), new int[] {s.e, s.n})) {
                return i;
            }
        }
        return NONE;
    }

    // ---- draws, images

    int seed(int v) {
        if (v < 0) {
            return OUTSIDE;
        }
        int was = (int) seed;
        seed = v;
        return was;
    }

    int keep(int i) {
        if (i != 0 && i != 1) {
            return UNKNOWN;
        }
        image[i] = s;
        imageSeed[i] = seed;
        undo.clear();
        return 1;
    }

    int goBack(int i) {
        if (i != 0 && i != 1) {
            return UNKNOWN;
        }
        if (image[i] == null) {
            return NOT;
        }
        s = image[i];
        seed = imageSeed[i];
        undo.clear();
        return 1;
    }
}
