/** Promises 15 to 23: where, lostWhen, stretch, bestRule, nodded, guide, turns, stop, nods. */
public final class TriedTest {
    private static final int OUTSIDE = -1000000002, NOT = -1000000003;
    /** CLOCK 1, AXIS -2, L 60, THE WORM 3, 0, -3, a JUMP of 11 at minute 4, BUTTONS of 2. */
    private static final String TEXT = "m10 7 60;w12,9,6;j4 110;b2;";

    public static void main(String[] args) {
        where();
        lostWhen();
        stretch();
        bestRule();
        nodded();
        guide();
        turns();
        stop();
        nods();
        nothingChanges();
        withoutMount();
        Check.end("TriedTest");
    }

    private static void where() {
        HeldOnCross x = Check.mounted(TEXT);
        int[] east = {0, 4, 5, 3, 7, 19, 17};
        for (int n = 0; n < east.length; n++) {
            Check.due("where(" + n + ", 0)", x.where(n, 0), 10000 + east[n]);
            Check.due("where(" + n + ", 1)", x.where(n, 1), 10000 - 2 * n);
        }
        x.press(1, 1);
        Check.due("BUTTONS wait", x.where(0, 0), 10000);
        Check.due("BUTTONS move it first", x.where(2, 0), 10007);
        Check.due("BUTTONS move it NORTH", x.where(2, 1), 9998);
        Check.due("where(-1, 0)", x.where(-1, 0), OUTSIDE);
        Check.due("where(1000, 0)", x.where(1000, 0), OUTSIDE);
        Check.due("where(0, 2)", x.where(0, 2), OUTSIDE);
        Check.due("where(0, -1)", x.where(0, -1), OUTSIDE);
        HeldOnCross y = Check.mounted("m11 9 9;");
        Check.due("LOST on the way", y.where(999, 0), 10010);
        y.minute(9);
        Check.due("LOST now", y.told(13), 1);
        Check.due("LOST now: where it is", y.where(7, 0), 10010);
        Check.due("999 minutes", Check.mounted("m10 9 999;").where(999, 0), 10999);
    }

    private static void lostWhen() {
        HeldOnCross x = Check.mounted("m11 9 9;");
        Check.due("lostWhen()", x.lostWhen(), 4);
        x.minute(2);
        Check.due("the number of the MINUTE", x.lostWhen(), 4);
        x.press(0, 10);
        Check.due("by BUTTONS that wait", x.lostWhen(), 2);
        x.plate();
        Check.due("from a new PLATE", x.lostWhen(), 6);
        x.minute(9);
        Check.due("LOST", x.lostWhen(), NOT);
        Check.due("never", Check.mounted("m9 9 1;").lostWhen(), -1);
        Check.due("in the last of 999: not", Check.mounted("m10 9 999;").lostWhen(), -1);
        Check.due("in the last of 999", Check.mounted("m10 9 998;").lostWhen(), 998);
        HeldOnCross y = Check.mounted("m10 9 999;");
        y.minute(1);
        Check.due("999 from now on", y.lostWhen(), 999);
        HeldOnCross z = Check.mounted("m9 9 5;j998 109;");
        Check.due("the JUMP in the last", z.lostWhen(), 998);
        Check.due("the JUMP too far off", Check.mounted("m9 9 5;j999 109;").lostWhen(), -1);
    }

    private static void stretch() {
        // EAST 4 5 3 7 19 17 .., NORTH -2 -4 -6 -8 -10 -12 ..
        HeldOnCross x = Check.mounted(TEXT);
        int[] due = {1, 1, 2, 2, 3, 3, 4, 4, 4};
        for (int d = 0; d < due.length; d++) {
            Check.due("stretch(" + d + ")", x.stretch(d), due[d]);
        }
        Check.due("stretch(15)", x.stretch(15), 4);
        Check.due("stretch(16): EAST 3 to 19", x.stretch(16), 6);
        Check.due("stretch(999): LOST at NORTH -62", x.stretch(999), 30);
        x.minute(4);
        x.press(9, 9);
        x.shut(true);
        // on a new PLATE from minute 4 on: EAST 12 10 ..
        Check.due("from this minute on", x.stretch(2), 2);
        Check.due("stretch(-1)", x.stretch(-1), OUTSIDE);
        Check.due("stretch(1000)", x.stretch(1000), OUTSIDE);
        Check.due("999 at most", Check.mounted("m9 9 1;").stretch(0), 999);
        Check.due("a TAIL of 998 by 999", Check.mounted("m10 9 999;").stretch(998), 999);
        Check.due("a TAIL of 997 by 998", Check.mounted("m10 9 999;").stretch(997), 998);
        HeldOnCross y = Check.mounted("m18 9 5;");
        Check.due("LOST at once", y.stretch(999), 0);
        y.minute(1);
        Check.due("when LOST, too", y.stretch(999), 0);
    }

    private static void bestRule() {
        HeldOnCross x = Check.mounted(TEXT);
        int[] n = {1, 2, 6, 20, 60, 200};
        int[] best = {1, 1, 606, 609, 609, 609};
        int[] tail = {0, 2, 12, 12, 12, 12};
        for (int i = 0; i < n.length; i++) {
            Check.due("bestRule(" + n[i] + ", 0)", x.bestRule(n[i], 0), best[i]);
            Check.due("bestRule(" + n[i] + ", 1)", x.bestRule(n[i], 1), tail[i]);
        }
        x.minute(3);
        x.press(9, 9);
        x.shut(true);
        int[] later = {1, 10, 705, 907, 907, 907};
        int[] laterTail = {0, 8, 12, 12, 12, 12};
        for (int i = 0; i < n.length; i++) {
            Check.due("bestRule(" + n[i] + ", 0) later", x.bestRule(n[i], 0), later[i]);
            Check.due("bestRule(" + n[i] + ", 1) later", x.bestRule(n[i], 1), laterTail[i]);
        }
        HeldOnCross f = Check.mounted("m7 18 60;w0,0,0;b9;");
        Check.due("an f of 11 would be better", f.bestRule(5, 0), 10);
        Check.due("an f of 11 would have 7", f.bestRule(5, 1), 8);
        HeldOnCross h = Check.mounted("m16 13 60;w9,18,15;b9;");
        Check.due("an h of 10 would be better", h.bestRule(8, 0), 10);
        Check.due("an h of 10 would have 16 by less", h.bestRule(8, 1), 16);
        HeldOnCross y = Check.mounted("m18 9 5;");
        Check.due("all LOST: the least", y.bestRule(9, 0), 1);
        Check.due("all LOST: 9999", y.bestRule(9, 1), 9999);
        y.minute(1);
        Check.due("when LOST, too", y.bestRule(9, 1), 9999);
        Check.due("bestRule(0, 0)", x.bestRule(0, 0), OUTSIDE);
        Check.due("bestRule(201, 0)", x.bestRule(201, 0), OUTSIDE);
        Check.due("bestRule(1, -1)", x.bestRule(1, -1), OUTSIDE);
        Check.due("bestRule(1, 2)", x.bestRule(1, 2), OUTSIDE);
    }

    private static void nodded() {
        HeldOnCross x = Check.mounted(TEXT);
        dueNodded(x, 1, 8, 12, 4, 14, 6, 7, 8);
        dueNodded(x, 1, 8, 12, 4, 16, 0);
        dueNodded(x, 1, 8, 12, 4, 18, 2, 3);
        dueNodded(x, 1, 8, 12, 4, 15);
        HeldOnCross y = Check.mounted("m9 0 40;b3;");
        y.minute(5);
        dueNodded(y, 0, 10, 20, 4, 27, 0);
        dueNodded(y, 0, 10, 20, 4, 9999, 1, 2, 3, 4, 5, 6, 7, 8, 9, 10, 11, 12, 13, 14, 15, 16);
        Check.due("when LOST, too", y.told(13), 1);
        HeldOnCross z = Check.mounted("m9 9 9;");
        Check.due("n less k is 0", z.nodded(0, 1, 20, 20, 0, -1), 1);
        Check.due("its first MINUTE", z.nodded(0, 1, 20, 20, 0, 0), 0);
        Check.due("k above n", z.nodded(0, 1, 19, 20, 0, -1), 0);
        Check.due("k above n, the first", z.nodded(0, 1, 19, 20, 0, 0), -1);
        Check.due("the edges", z.nodded(99, 20, 60, 1, 0, 59), 59);
        Check.due("nodded(-1, ..)", z.nodded(-1, 1, 1, 1, 0, 0), OUTSIDE);
        Check.due("nodded(100, ..)", z.nodded(100, 1, 1, 1, 0, 0), OUTSIDE);
        Check.due("nodded(0, -1, ..)", z.nodded(0, -1, 1, 1, 0, 0), OUTSIDE);
        Check.due("nodded(0, 21, ..)", z.nodded(0, 21, 1, 1, 0, 0), OUTSIDE);
        Check.due("nodded(0, 1, 0, ..)", z.nodded(0, 1, 0, 1, 0, 0), OUTSIDE);
        Check.due("nodded(0, 1, 61, ..)", z.nodded(0, 1, 61, 1, 0, 0), OUTSIDE);
        Check.due("nodded(0, 1, 1, 0, ..)", z.nodded(0, 1, 1, 0, 0, 0), OUTSIDE);
        Check.due("nodded(0, 1, 1, 21, ..)", z.nodded(0, 1, 1, 21, 0, 0), OUTSIDE);
        Check.due("nodded(0, 1, 1, 1, -1, ..)", z.nodded(0, 1, 1, 1, -1, 0), OUTSIDE);
        Check.due("nodded(0, 1, 1, 1, 10000, ..)", z.nodded(0, 1, 1, 1, 10000, 0), OUTSIDE);
        Check.due("nodded(0, 1, 1, 1, 9999, -1)", z.nodded(0, 1, 1, 1, 9999, -1), 0);
    }

    private static void dueNodded(HeldOnCross x, int h, int f, int n, int k, int d, int... firsts) {
        String call = "nodded(" + h + ", " + f + ", " + n + ", " + k + ", " + d + ", ";
        Check.due(call + "-1)", x.nodded(h, f, n, k, d, -1), firsts.length);
        for (int i = 0; i < firsts.length; i++) {
            Check.due(call + i + ")", x.nodded(h, f, n, k, d, i), firsts[i]);
        }
        Check.due(call + "behind the last)", x.nodded(h, f, n, k, d, firsts.length), -1);
        Check.due(call + "-2)", x.nodded(h, f, n, k, d, -2), -1);
        Check.due(call + "least int)", x.nodded(h, f, n, k, d, Integer.MIN_VALUE), -1);
        Check.due(call + "greatest int)", x.nodded(h, f, n, k, d, Integer.MAX_VALUE), -1);
    }

    private static void guide() {
        HeldOnCross x = Check.mounted("m9 9 9;s20 5;s8 3;s8 6;s40 9;s8 6;s7 2;");
        int[] due = {5, 5, 2, 2, 2, 2, 3, 3, 3};
        for (int b = 1; b <= 9; b++) {
            Check.due("guide(" + b + ")", x.guide(b), due[b - 1]);
        }
        Check.due("guide(0)", x.guide(0), OUTSIDE);
        Check.due("guide(10)", x.guide(10), OUTSIDE);
        Check.due("STAR 0", Check.mounted("m9 9 9;s7 5;s8 9;").guide(1), 0);
        Check.due("of like ones the least", Check.mounted("m9 9 9;s7 5;s7 5;s7 4;").guide(1), 0);
        Check.due("none so light", Check.mounted("m9 9 9;s20 5;").guide(6), -1);
        Check.due("no STARS", Check.mounted("m9 9 9;").guide(1), -1);
        Check.due("no STARS, OUTSIDE", new HeldOnCross().guide(0), OUTSIDE);
    }

    private static void turns() {
        HeldOnCross x = Check.mounted(TEXT);
        Check.due("turns(50, 100)", x.turns(50, 100), 100);
        Check.due("turns(1, 49): cut", x.turns(1, 49), 0);
        Check.due("turns(1, 50)", x.turns(1, 50), 1);
        Check.due("turns(33, 77): cut", x.turns(33, 77), 50);
        Check.due("turns(0, 999)", x.turns(0, 999), 0);
        Check.due("turns(99, 0)", x.turns(99, 0), 0);
        Check.due("turns(99, 999)", x.turns(99, 999), 1978);
        Check.due("AXIS 9", Check.mounted("m9 18 9;").turns(99, 999), 8901);
        Check.due("turns(-1, 0)", x.turns(-1, 0), OUTSIDE);
        Check.due("turns(100, 0)", x.turns(100, 0), OUTSIDE);
        Check.due("turns(0, -1)", x.turns(0, -1), OUTSIDE);
        Check.due("turns(0, 1000)", x.turns(0, 1000), OUTSIDE);
        Check.due("OUTSIDE is ahead of NOT", new HeldOnCross().turns(100, 0), OUTSIDE);
    }

    private static void stop() {
        HeldOnCross x = Check.mounted("m10 9 20;");
        Check.due("stop(0)", x.stop(0), 0);
        Check.due("stop(20)", x.stop(20), 20);
        Check.due("LOST ahead of that", x.stop(21), -1);
        x.minute(5);
        Check.due("stop(5): it has them", x.stop(5), 0);
        Check.due("stop(3): it has more", x.stop(3), 0);
        Check.due("stop(9)", x.stop(9), 4);
        x.shut(true);
        x.minute(3);
        Check.due("not SHUT from now on", x.stop(9), 4);
        Check.due("stop(17)", x.stop(17), 12);
        Check.due("stop(18)", x.stop(18), -1);
        x.press(-9, 0);
        Check.due("BUTTONS move it first", x.stop(26), 21);
        x.press(13, 0);
        Check.due("LOST by BUTTONS", x.stop(6), -1);
        Check.due("no MINUTE more, not LOST", x.stop(5), 0);
        Check.due("SHUT stays", x.told(14), 1);
        x.minute(1);
        Check.due("LOST", x.stop(0), NOT);
        Check.due("stop(-1)", x.stop(-1), OUTSIDE);
        Check.due("stop(1000)", x.stop(1000), OUTSIDE);
        Check.due("stop(999)", Check.mounted("m9 9 1;").stop(999), 999);
    }

    private static void nods() {
        HeldOnCross x = new HeldOnCross();
        Check.due("nods(0, 37)", x.nods(0, 37), 1000000000);
        Check.due("nods(1, 37)", x.nods(1, 37), 630000000);
        Check.due("nods(2, 37)", x.nods(2, 37), 396900000);
        Check.due("nods(3, 37)", x.nods(3, 37), 250047000);
        Check.due("nods(40, 37): cut each time", x.nods(40, 37), 8);
        Check.due("nods(99, 37)", x.nods(99, 37), 0);
        Check.due("nods(99, 1)", x.nods(99, 1), 369729607);
        Check.due("nods(99, 0)", x.nods(99, 0), 1000000000);
        Check.due("nods(1, 100)", x.nods(1, 100), 0);
        Check.due("nods(0, 100)", x.nods(0, 100), 1000000000);
        Check.due("nods(-1, 0)", x.nods(-1, 0), OUTSIDE);
        Check.due("nods(100, 0)", x.nods(100, 0), OUTSIDE);
        Check.due("nods(0, -1)", x.nods(0, -1), OUTSIDE);
        Check.due("nods(0, 101)", x.nods(0, 101), OUTSIDE);
    }

    private static void nothingChanges() {
        HeldOnCross x = Check.mounted(TEXT);
        x.minute(3);
        x.press(2, 2);
        x.shut(true);
        x.where(999, 0);
        x.lostWhen();
        x.stretch(999);
        x.bestRule(200, 0);
        x.nodded(0, 10, 60, 5, 3, -1);
        x.stop(999);
        x.look();
        Check.dueNight("behind all that was tried", x, 3, 3, -6, 0, 1, 3, 4);
        Check.due("BUTTONS still wait", x.minute(1), 10011);
        Check.due("what can be undone", x.told(20), 4);
        Check.due("THE SEED", x.seed(0), 0);
    }

    private static void withoutMount() {
        HeldOnCross x = new HeldOnCross();
        Check.due("where(0, 0)", x.where(0, 0), NOT);
        Check.due("where(1000, 0)", x.where(1000, 0), OUTSIDE);
        Check.due("lostWhen()", x.lostWhen(), NOT);
        Check.due("stretch(0)", x.stretch(0), NOT);
        Check.due("stretch(1000)", x.stretch(1000), OUTSIDE);
        Check.due("bestRule(1, 0)", x.bestRule(1, 0), NOT);
        Check.due("bestRule(0, 0)", x.bestRule(0, 0), OUTSIDE);
        Check.due("nodded(0, 1, 1, 1, 0, 0)", x.nodded(0, 1, 1, 1, 0, 0), NOT);
        Check.due("nodded(0, 1, 0, 1, 0, 0)", x.nodded(0, 1, 0, 1, 0, 0), OUTSIDE);
        Check.due("turns(0, 0)", x.turns(0, 0), NOT);
        Check.due("stop(0)", x.stop(0), NOT);
        Check.due("stop(1000)", x.stop(1000), OUTSIDE);
        Check.due("guide(1)", x.guide(1), -1);
        Check.due("nods(1, 50)", x.nods(1, 50), 500000000);
    }
}
