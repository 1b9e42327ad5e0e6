import java.util.Random;

/** All promises: long runs of calls, drawn from a fixed seed, answered by the class as by the model. */
public final class ModelTest {
    private static final int CALLS = 512;
    private static final int RUNS = 700;
    private static final int TEXTS = 60000;

    private final Random random;
    private final HeldOnCross x = new HeldOnCross();
    private final Model model = new Model();
    private final String run;
    private int calls;
    private boolean isCalm;

    private ModelTest(int seed) {
        random = new Random(seed);
        run = "run " + seed + ", call ";
        isCalm = seed % 2 == 0;
    }

    public static void main(String[] args) {
        for (int seed = 0; seed < RUNS; seed++) {
            new ModelTest(seed).go();
        }
        for (int seed = 0; seed < TEXTS; seed++) {
            new ModelTest(seed).oneText();
        }
        Check.end("ModelTest");
    }

    private void due(String call, int got, int want) {
        calls++;
        Check.due(run + calls + ": " + call, got, want);
    }

    private void go() {
        for (int what = -1; what <= 21; what++) {
            due("told(" + what + ")", x.told(what), model.told(what));
        }
        while (calls < CALLS) {
            if (random.nextInt(isCalm ? 150 : 25) == 0 || calls < 100 && model.told(0) == 0 && random.nextInt(5) > 0) {
                mountText(text());
            } else {
                one(random.nextInt(42));
            }
            due("told(..)", toldAll(true), toldAll(false));
        }
    }

    private void oneText() {
        mountText(random.nextInt(40) == 0 ? text() + " ".repeat(200) : text());
        due("told(..)", toldAll(true), toldAll(false));
        for (int i = 0; i < 9; i++) {
            due("worm(" + i + ")", x.worm(i), model.worm(i));
            due("star(" + i + ", 0)", x.star(i, 0), model.star(i, 0));
            due("star(" + i + ", 1)", x.star(i, 1), model.star(i, 1));
        }
    }

    /** All that told() answers, folded into one number; of the class or of the model. */
    private int toldAll(boolean ofClass) {
        int all = 0;
        for (int what = 0; what <= 20; what++) {
            if (what != 16 || calls % 16 == 0) {
                all = all * 1000003 + (ofClass ? x.told(what) : model.told(what));
            }
        }
        return all;
    }

    private void mountText(String text) {
        for (int i = 0; i < text.length(); i++) {
            due("feed(" + (int) text.charAt(i) + ")", x.feed(text.charAt(i)), model.feed(text.charAt(i)));
        }
        due("mount() of " + text, x.mount(), model.mount());
        due("fault()", x.fault(), model.fault());
    }

    private String blank() {
        return random.nextInt(6) == 0 ? "  ".substring(random.nextInt(2)) : "";
    }

    private String number(int least, int most) {
        int v = least + random.nextInt(most - least + 1);
        if (isCalm ? random.nextInt(60) == 0 : random.nextInt(12) == 0) {
            v = random.nextBoolean() ? least : most;
        }
        if (!isCalm && random.nextInt(40) == 0) {
            v = random.nextBoolean() ? Math.max(least - 1, 0) : most + 1;
        }
        String figures = Integer.toString(v);
        return random.nextInt(30) == 0 ? "0" + figures : figures;
    }

    private String text() {
        if (random.nextInt(isCalm ? 60 : 15) == 0) {
            return "   ".substring(random.nextInt(4));
        }
        StringBuilder all = new StringBuilder();
        boolean isSlow = random.nextBoolean();
        all.append(blank()).append('m').append(blank()).append(isSlow ? number(7, 11) : number(0, 18)).append(' ').append(blank())
            .append(isSlow ? number(8, 10) : number(0, 18)).append(' ').append(random.nextInt(3) == 0 ? number(1, 40) : number(100, 999))
            .append(blank()).append(';');
        String words = "wjbsss";
        int more = random.nextInt(isCalm ? 6 : 10);
        for (int i = 0; i < more; i++) {
            int w = random.nextInt(words.length());
            char word = words.charAt(w);
            if (isCalm || random.nextInt(3) > 0) {
                words = words.substring(0, w) + words.substring(w + 1) + (word == 's' ? "s" : "");
            }
            all.append(blank()).append(word).append(blank());
            switch (word) {
                case 'w' -> {
                    int length = 1 + random.nextInt(isCalm ? 9 : 11);
                    for (int k = 0; k < length; k++) {
                        all.append(k == 0 ? "" : ",").append(blank()).append(isSlow ? number(6, 12) : number(0, 18)).append(blank());
                    }
                }
                case 'j' -> all.append(random.nextBoolean() ? number(0, 60) : number(0, 999)).append(' ').append(number(0, 198));
                case 's' -> all.append(random.nextBoolean() ? number(0, 3) : number(0, 99)).append(' ').append(number(1, 9));
                default -> all.append(number(1, 9));
            }
            all.append(blank()).append(';').append(blank());
            if (words.isEmpty()) {
                break;
            }
        }
        if (!isCalm && random.nextInt(3) == 0) {
            spoil(all);
        }
        return all.toString();
    }

    private void spoil(StringBuilder text) {
        String signs = "mwjsb;, 0123456789xM\t\u00e9";
        int times = 1 + random.nextInt(2);
        for (int i = 0; i < times && text.length() > 0; i++) {
            int at = random.nextInt(text.length());
            char sign = signs.charAt(random.nextInt(signs.length()));
            switch (random.nextInt(4)) {
                case 0 -> text.deleteCharAt(at);
                case 1 -> text.insert(at, sign);
                case 2 -> text.setCharAt(at, sign);
                default -> text.setLength(at);
            }
        }
    }

    /** Mostly within the bounds, often at an edge, at times beyond it. */
    private int in(int least, int most) {
        int kind = random.nextInt(isCalm ? 60 : 14);
        if (kind == 0) {
            return least - 1;
        }
        if (kind == 1) {
            return most + 1;
        }
        if (kind == 2) {
            return random.nextBoolean() ? least : most;
        }
        if (kind == 3 && random.nextInt(5) == 0) {
            return random.nextBoolean() ? Integer.MIN_VALUE : Integer.MAX_VALUE;
        }
        return least + random.nextInt(most - least + 1);
    }

    /** A few minutes often, many at times. */
    private int minutes(int most) {
        return random.nextInt(3) == 0 ? in(1, most) : in(1, 12);
    }

    private int place(int what) {
        return random.nextInt(8) == 0 ? in(-2000, 2000) : model.told(what) - 10000;
    }

    private void one(int which) {
        int a = in(0, 99);
        int b = in(0, 20);
        if (which < 15) {
            oneDone(which, a, b);
        } else if (which < 29) {
            oneTried(which, a, b);
        } else {
            oneSeen(which);
        }
    }

    private void oneDone(int which, int a, int b) {
        int n = minutes(99);
        switch (which) {
            case 0, 1, 2 -> due("minute(" + n + ")", x.minute(n), model.minute(n));
            case 3, 4, 5 -> {
                int e = random.nextBoolean() ? in(-99, 99) : in(-5, 5);
                int d = random.nextBoolean() ? in(-99, 99) : in(-5, 5);
                due("press(" + e + ", " + d + ")", x.press(e, d), model.press(e, d));
            }
            case 6, 7, 8 -> {
                int h = random.nextBoolean() ? a : in(0, 5);
                due("rule(" + h + ", " + b + ", " + n + ")", x.rule(h, b, n), model.rule(h, b, n));
            }
            case 9 -> {
                boolean is = random.nextBoolean();
                due("shut(" + is + ")", x.shut(is), model.shut(is));
            }
            case 10, 11 -> due("plate()", x.plate(), model.plate());
            case 12, 13 -> due("drift(" + n + ")", x.drift(n), model.drift(n));
            default -> {
                int times = random.nextInt(8) == 0 ? 22 : 1 + random.nextInt(3);
                for (int i = 0; i < times; i++) {
                    due("undo()", x.undo(), model.undo());
                }
            }
        }
    }

    private void oneTried(int which, int a, int b) {
        int far = random.nextBoolean() ? in(0, 999) : in(0, 20);
        int bit = in(0, 1);
        switch (which) {
            case 15, 16 -> due("where(" + far + ", " + bit + ")", x.where(far, bit), model.where(far, bit));
            case 17 -> due("lostWhen()", x.lostWhen(), model.lostWhen());
            case 18, 19 -> due("stretch(" + far + ")", x.stretch(far), model.stretch(far));
            case 20 -> {
                int n = random.nextInt(6) == 0 ? in(1, 200) : in(1, 12);
                due("bestRule(" + n + ", " + bit + ")", x.bestRule(n, bit), model.bestRule(n, bit));
            }
            case 21, 22, 23 -> nodded(a, b);
            case 24 -> {
                int light = in(1, 9);
                due("guide(" + light + ")", x.guide(light), model.guide(light));
            }
            case 25 -> due("turns(" + a + ", " + far + ")", x.turns(a, far), model.turns(a, far));
            case 26, 27 -> due("stop(" + far + ")", x.stop(far), model.stop(far));
            default -> {
                int q = in(0, 100);
                due("nods(" + a + ", " + q + ")", x.nods(a, q), model.nods(a, q));
            }
        }
    }

    private void nodded(int a, int f) {
        int h = random.nextBoolean() ? a : in(0, 5);
        int n = random.nextInt(4) == 0 ? in(1, 60) : in(1, 15);
        int k = random.nextInt(4) == 0 ? in(1, 20) : in(1, 6);
        for (int d = 0; d < 3; d++) {
            int length = random.nextInt(5) == 0 ? 9999 : random.nextInt(12) == 0 ? in(0, 9999) : in(0, 40);
            int i = random.nextInt(3) == 0 ? in(0, 60) : random.nextInt(4) - 1;
            due("nodded(" + h + ", " + f + ", " + n + ", " + k + ", " + length + ", " + i + ")",
                x.nodded(h, f, n, k, length, i), model.nodded(h, f, n, k, length, i));
        }
    }

    private void oneSeen(int which) {
        int i = in(0, 1);
        switch (which) {
            case 29, 30 -> {
                int t = random.nextBoolean() ? in(0, 999) : Math.min(Math.max(model.told(5), 0), 999);
                int move = model.told(1) - 9 + random.nextInt(7) - 3 + (t == model.told(5) ? model.told(6) - 99 : 0);
                int d = random.nextInt(9) == 0 ? in(-150, 150) : move;
                due("see(" + t + ", " + d + ")", x.see(t, d), model.see(t, d));
            }
            case 31, 32 -> {
                int place = in(0, model.told(4) - 1);
                due("fits(" + place + ", " + i + ")", x.fits(place, i), model.fits(place, i));
                due("periods()", x.periods(), model.periods());
            }
            case 33 -> due("look()", x.look(), model.look());
            case 34, 35 -> {
                int from = in(0, 999);
                int to = random.nextBoolean() ? in(0, 999) : from + 1 + random.nextInt(5);
                int by = random.nextInt(3) == 0 ? in(-9000, 9000) : (to - from) * (random.nextInt(3) - 1);
                due("tail(" + from + ", " + to + ", " + by + ")", x.tail(from, to, by), model.tail(from, to, by));
                due("axes()", x.axes(), model.axes());
            }
            case 36 -> {
                int e = place(11);
                int n = place(12);
                due("write(" + e + ", " + n + ")", x.write(e, n), model.write(e, n));
                due("judge()", x.judge(), model.judge());
            }
            case 37 -> due("judge()", x.judge(), model.judge());
            case 38 -> {
                if (random.nextInt(4) == 0) {
                    due("tear()", x.tear(), model.tear());
                }
            }
            case 39 -> {
                int v = in(0, 2147483646);
                due("seed(" + v + ")", x.seed(v), model.seed(v));
            }
            case 40 -> due("keep(" + i + ")", x.keep(i), model.keep(i));
            default -> due("goBack(" + i + ")", x.goBack(i), model.goBack(i));
        }
    }
}
