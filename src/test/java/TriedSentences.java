/** Section 3 of "Terms", TRIED, as far as promises 15 to 23 go. */
final class TriedSentences {
    private static final int OUTSIDE = -1000000002, NOT = -1000000003;
    private static final int NONE = -1;

    private TriedSentences() {
    }

    static void all() {
        where();
        lostWhen();
        stretch();
        bestRuleLeastTail();
        bestRuleFewestPressed();
        bestRuleBounds();
        nodded();
        noddedEdges();
        guide();
        turns();
        stop();
        nods();
        promises();
    }

    private static void where() {
        Doc.terms("WHERE it is behind n MINUTES unguided (0 .. 999; BUTTONS that wait move it first; LOST on the way: where it was then).");
        HeldOnCross x = Check.mounted("m11 8 99;w9,10;j3 119;b3;");
        int[] east = {0, 2, 5, 7, 30, 32};
        for (int n = 0; n < east.length; n++) {
            Check.due("where(" + n + ", 0)", x.where(n, 0), 10000 + east[n]);
            Check.due("where(" + n + ", 1)", x.where(n, 1), 10000 - n);
        }
        x.press(5, -4);
        Check.due("in 0 MINUTES BUTTONS do not move it", x.where(0, 0), 10000);
        Check.due("nor NORTH", x.where(0, 1), 10000);
        Check.due("in one they do", x.where(1, 0), 10017);
        Check.due("and NORTH", x.where(1, 1), 9987);
        Check.due("once", x.where(2, 0), 10020);
        Check.due("once, NORTH", x.where(2, 1), 9986);
        Check.due("999", Check.mounted("m10 8 999;").where(999, 0), 10999);
        Check.due("999, NORTH", Check.mounted("m10 8 999;").where(999, 1), 9001);
        HeldOnCross gone = Check.mounted("m11 8 9;");
        Check.due("at L", gone.where(4, 0), 10008);
        Check.due("LOST in the last", gone.where(5, 0), 10010);
        Check.due("LOST on the way", gone.where(6, 0), 10010);
        Check.due("LOST on the way, NORTH", gone.where(999, 1), 9995);
        gone.minute(5);
        Check.due("LOST already", gone.told(13), 1);
        Check.due("where it was then", gone.where(0, 0), 10010);
        Check.due("and is", gone.where(999, 0), 10010);
        gone.shut(true);
        gone.plate();
        Check.due("from a new PLATE", gone.where(1, 0), 10002);
    }

    private static void lostWhen() {
        Doc.terms("LOST WHEN: the number of the MINUTE in which it will be, unguided (of 999 from now on); NONE.");
        Check.due("in the first", Check.mounted("m11 9 1;").lostWhen(), 0);
        Check.due("in the second", Check.mounted("m11 9 2;").lostWhen(), 1);
        Check.due("by NORTH", Check.mounted("m9 7 3;").lostWhen(), 1);
        Check.due("never", Check.mounted("m9 9 1;").lostWhen(), NONE);
        // a JUMP beyond L, in the last of 999 and in the one behind it
        Check.due("in the 999th", Check.mounted("m9 9 5;j998 105;").lostWhen(), 998);
        Check.due("at L in the 999th", Check.mounted("m9 9 6;j998 105;").lostWhen(), NONE);
        HeldOnCross x = Check.mounted("m9 9 5;j999 105;");
        Check.due("in the 1000th", x.lostWhen(), NONE);
        x.minute(1);
        Check.due("the 999th from minute 1", x.lostWhen(), 999);
        x.minute(99);
        Check.due("its number, not how many", x.lostWhen(), 999);
        x.press(0, -6);
        Check.due("by BUTTONS that wait", x.lostWhen(), 100);
        x.press(0, 0);
        x.shut(true);
        Check.due("SHUT is the same", x.lostWhen(), 999);
        HeldOnCross late = Check.mounted("m9 9 5;j0 99;w10,8;");
        for (int i = 0; i < 91; i++) {
            late.minute(99);
        }
        late.press(5, 0);
        Check.due("above 9000: minute 9009 goes west, 9010 east again", late.lostWhen(), 9010);
    }

    private static void stretch() {
        Doc.terms("STRETCH: how many MINUTES unguided at most (0 .. 999) on a new PLATE from this minute on make a TAIL of d (0 .. 999) "
            + "at most, nothing LOST.");
        HeldOnCross x = Check.mounted("m11 9 99;");
        Check.due("one place has no TAIL", x.stretch(0), 1);
        Check.due("1 is less than 2", x.stretch(1), 1);
        Check.due("2 is just", x.stretch(2), 2);
        Check.due("3", x.stretch(3), 2);
        Check.due("nothing LOST", x.stretch(999), 49);
        Check.due("LOST at once", Check.mounted("m11 9 1;").stretch(999), 0);
        Check.due("LOST at once, d 0", Check.mounted("m11 9 1;").stretch(0), 0);
        Check.due("999 at most", Check.mounted("m9 9 1;").stretch(0), 999);
        Check.due("999 by a TAIL of 998", Check.mounted("m10 9 999;").stretch(998), 999);
        Check.due("998 by one of 997", Check.mounted("m10 9 999;").stretch(997), 998);
        Check.due("NORTH, too", Check.mounted("m9 6 99;").stretch(6), 3);
        // from -96 on by threes: a TAIL of 999 by 334
        Check.due("a TAIL of 999", Check.mounted("m12 9 999;j0 0;").stretch(999), 334);
        Check.due("not one of 999 by 998", Check.mounted("m12 9 999;j0 0;").stretch(998), 333);
        Check.due("nor one of 1000 by 999", Check.mounted("m11 9 999;j0 0;").stretch(999), 500);
        HeldOnCross jump = Check.mounted("m9 9 99;j5 109;");
        Check.due("ahead of the JUMP", jump.stretch(9), 5);
        jump.minute(2);
        Check.due("from this minute on", jump.stretch(9), 3);
        jump.minute(3);
        Check.due("it is the first", jump.stretch(9), 999);
        HeldOnCross y = Check.mounted("m11 9 9;");
        y.minute(2);
        y.press(9, 9);
        y.shut(true);
        Check.due("a new PLATE: from 0, nothing waits, not SHUT", y.stretch(4), 3);
        y.minute(9);
        Check.due("LOST", y.told(13), 1);
        Check.due("not LOST on a new PLATE", y.stretch(999), 4);
    }

    private static void bestRuleLeastTail() {
        Doc.terms("BEST RULE for n MINUTES (1 .. 200) on a new PLATE: h of 0 to 9, f of 1 to 10: by which the TAIL is least "
            + "(one that is LOST counts as 9999);");
        dueBest(Check.mounted("m10 9 99;"), 1, 1, 0);
        // 1 a minute: pressed back each time it stays at 1
        dueBest(Check.mounted("m10 9 99;"), 2, 10, 0);
        dueBest(Check.mounted("m10 9 99;"), 200, 10, 0);
        dueBest(Check.mounted("m9 10 99;"), 200, 10, 0);
        dueBest(Check.mounted("m8 9 99;"), 200, 10, 0);
        // BUTTONS of 2: 1, 2, back to 1, and so on
        dueBest(Check.mounted("m10 9 99;b2;"), 3, 10, 1);
        // all are LOST, in the first MINUTE
        dueBest(Check.mounted("m18 9 5;"), 200, 1, 9999);
        // L 1: all that let it go on to 2 are LOST
        dueBest(Check.mounted("m10 9 1;"), 9, 10, 0);
        HeldOnCross x = Check.mounted("m10 9 99;j1 114;");
        dueBest(x, 1, 1, 0);
        x.minute(2);
        x.press(50, 0);
        x.shut(true);
        dueBest(x, 2, 10, 0);
        x.press(99, 99);
        x.minute(1);
        x.press(99, 99);
        Check.due("LOST", x.told(13), 1);
        dueBest(x, 2, 10, 0);
    }

    private static void bestRuleFewestPressed() {
        Doc.terms("of like ones fewest MINUTES in which something was PRESSED, then the least h, then f: 100 times h and f; the TAIL.");
        // nothing moves: no one presses
        dueBest(Check.mounted("m9 9 99;"), 200, 1, 0);
        // a JUMP of 10 in the second MINUTE: all have a TAIL of 10 and press once at least; f = 1 does it once
        dueBest(Check.mounted("m9 9 99;j1 109;"), 5, 1, 10);
        // a JUMP of 19: f of 1 to 9 with h = 0 press twice and more, f = 10 once
        dueBest(Check.mounted("m9 9 99;j1 118;"), 5, 10, 19);
        // of 9: 9 tenths of it and less are pressed again or not at all; f = 1 presses never
        dueBest(Check.mounted("m9 9 99;j1 108;"), 5, 1, 9);
        // 18, then still, and all are LOST by a JUMP: what was pressed till then counts, and f = 10 does it once
        dueBest(Check.mounted("m18 9 50;w18,0,0,0,0,0,0,0,0;j5 198;"), 9, 10, 9999);
    }

    private static void bestRuleBounds() {
        // 9, 3, 9 a minute, BUTTONS of 2: h = 9 lets it go to 12, back by 10 and on to 11; who presses at 9 has 5 at least
        dueBest(Check.mounted("m9 9 99;w18,12;b2;"), 3, 909, 3);
        // 10, 3, 10 a minute: h = 10 would let it go to 13 and back by 10, with a TAIL of 3
        dueBest(Check.mounted("m16 9 99;w12,5;b2;"), 3, 5, 6);
        // 2, 11, 11 a minute: f = 11 would press 12 at 11, with a TAIL of 9
        dueBest(Check.mounted("m13 9 99;w16;j0 90;b2;"), 3, 10, 10);
    }

    private static void dueBest(HeldOnCross x, int n, int rule, int tail) {
        Check.due("bestRule(" + n + ", 0)", x.bestRule(n, 0), rule);
        Check.due("bestRule(" + n + ", 1)", x.bestRule(n, 1), tail);
    }

    private static void nodded() {
        Doc.terms("NODDED: on a new PLATE for n MINUTES (1 .. 60) by a RULE from this minute on, but for one stretch of k MINUTES (1 .. 20) "
            + "in which nothing was PRESSED: its first MINUTES (0 to n less k, counted from now) by which the TAIL is just d (0 .. 9999; "
            + "one that is LOST counts as 9999): how many; the i-th; NONE.");
        // 1 a minute, pressed back each time but for the nod; nothing is to press in the first MINUTE
        HeldOnCross x = Check.mounted("m10 9 99;");
        dueNodded(x, 5, 1, 0, 0);
        dueNodded(x, 5, 1, 1, 1, 2, 3, 4);
        dueNodded(x, 5, 1, 2);
        dueNodded(x, 5, 2, 1, 0);
        dueNodded(x, 5, 2, 2, 1, 2, 3);
        dueNodded(x, 5, 5, 4, 0);
        dueNodded(x, 5, 6, 4);
        dueNodded(x, 1, 1, 0, 0);
        dueNodded(x, 1, 20, 0);
        dueNodded(x, 20, 20, 19, 0);
        dueNodded(x, 19, 20, 18);
        Check.due("0 to n less k: all but 0", x.nodded(0, 10, 60, 20, 20, -1), 40);
        Check.due("the last of them", x.nodded(0, 10, 60, 20, 20, 39), 40);
        Check.due("behind the last", x.nodded(0, 10, 60, 20, 20, 40), NONE);
        Check.due("59 is the last of 60", x.nodded(0, 10, 60, 1, 1, 58), 59);
        x.minute(7);
        x.press(30, 30);
        x.shut(true);
        dueNodded(x, 5, 2, 2, 1, 2, 3);
        HeldOnCross jump = Check.mounted("m10 9 99;j7 119;");
        jump.minute(5);
        // the JUMP is in the third MINUTE from now: 1, 1, 21, 1, 1; a nod in it or behind it makes 22
        dueNodded(jump, 5, 1, 20, 0, 1, 4);
        dueNodded(jump, 5, 1, 21, 2, 3);
    }

    private static void noddedEdges() {
        // L 2: two MINUTES without presses let it go on to 3
        HeldOnCross x = Check.mounted("m10 9 2;");
        dueNodded(x, 5, 2, 9999, 1, 2, 3);
        dueNodded(x, 5, 2, 1, 0);
        dueNodded(x, 5, 3, 9999, 0, 1, 2);
        x.minute(9);
        Check.due("LOST", x.told(13), 1);
        dueNodded(x, 5, 2, 9999, 1, 2, 3);
        HeldOnCross still = Check.mounted("m9 9 9;");
        Check.due("all alike", still.nodded(0, 10, 60, 1, 0, -1), 60);
        Check.due("the last", still.nodded(0, 10, 60, 1, 0, 59), 59);
        Check.due("no more", still.nodded(0, 10, 60, 1, 0, 60), NONE);
        HeldOnCross gone = Check.mounted("m18 9 5;");
        Check.due("LOST at once", gone.nodded(0, 10, 60, 20, 9999, -1), 41);
        Check.due("LOST is no TAIL of 0", gone.nodded(0, 10, 60, 20, 0, -1), 0);
        HeldOnCross never = Check.mounted("m10 9 99;");
        Check.due("f = 0: nobody presses at all", never.nodded(0, 0, 10, 3, 9, -1), 8);
        Check.due("h = 99: nor here", never.nodded(99, 20, 10, 3, 9, -1), 8);
        // f = 20: 1, 0, 1; with a nod in the second MINUTE 1, 2, -1
        Check.due("f = 20", never.nodded(0, 20, 3, 1, 1, -1), 2);
        Check.due("f = 20, the nod that counts", never.nodded(0, 20, 3, 1, 3, 0), 1);
    }

    /** By the RULE (0, 10). */
    private static void dueNodded(HeldOnCross x, int n, int k, int d, int... firsts) {
        String call = "nodded(0, 10, " + n + ", " + k + ", " + d + ", ";
        Check.due(call + "-1)", x.nodded(0, 10, n, k, d, -1), firsts.length);
        for (int i = 0; i < firsts.length; i++) {
            Check.due(call + i + ")", x.nodded(0, 10, n, k, d, i), firsts[i]);
        }
        for (int i : new int[] {firsts.length, Integer.MAX_VALUE, -2, Integer.MIN_VALUE}) {
            Check.due(call + i + ")", x.nodded(0, 10, n, k, d, i), NONE);
        }
    }

    private static void guide() {
        Doc.terms("GUIDE: of STARS of LIGHT b or more (1 .. 9) that which is nearest to the middle; of like ones of more LIGHT, then the least; NONE.");
        Check.due("no STARS", Check.mounted("m9 9 9;").guide(1), NONE);
        HeldOnCross one = Check.mounted("m9 9 9;s99 5;");
        Check.due("of just this LIGHT", one.guide(5), 0);
        Check.due("of less", one.guide(6), NONE);
        HeldOnCross x = Check.mounted("m9 9 9;s40 9;s0 1;s8 3;s8 6;s8 6;s99 9;");
        int[] due = {1, 3, 3, 3, 3, 3, 0, 0, 0};
        for (int b = 1; b <= 9; b++) {
            Check.due("guide(" + b + ")", x.guide(b), due[b - 1]);
        }
        Check.due("nearest, though of less LIGHT", Check.mounted("m9 9 9;s2 9;s1 2;").guide(1), 1);
        Check.due("of like ones of more LIGHT", Check.mounted("m9 9 9;s2 3;s2 4;").guide(1), 1);
        Check.due("of like ones of more LIGHT, the first", Check.mounted("m9 9 9;s2 4;s2 3;").guide(1), 0);
        Check.due("then the least", Check.mounted("m9 9 9;s9 9;s2 4;s2 4;s2 4;").guide(1), 1);
        Check.due("the sixth", Check.mounted("m9 9 9;s9 1;s9 1;s9 1;s9 1;s9 1;s9 2;").guide(2), 5);
        Check.feedAll(x, "m9 9 9;s50 1;");
        x.mount();
        Check.due("of STARS that there are no more none", x.guide(2), NONE);
        Check.due("the one that there is", x.guide(1), 0);
    }

    private static void turns() {
        Doc.terms("TURNS: how far at the rim of R HAIRS (0 .. 99) the field turns in n MINUTES (0 .. 999): R times the size of AXIS times n / 100.");
        HeldOnCross south = Check.mounted("m9 0 99;");
        HeldOnCross north = Check.mounted("m9 18 99;");
        int[][] due = {{0, 999, 0}, {99, 0, 0}, {99, 999, 8901}, {1, 11, 0}, {1, 12, 1}, {11, 101, 99}, {0, 0, 0}};
        for (int[] one : due) {
            Check.due("turns(), AXIS -9", south.turns(one[0], one[1]), one[2]);
            Check.due("turns(), AXIS 9", north.turns(one[0], one[1]), one[2]);
        }
        Check.due("AXIS 0", Check.mounted("m0 9 99;").turns(99, 999), 0);
        Check.due("AXIS -1", Check.mounted("m9 8 99;").turns(99, 999), 989);
    }

    private static void stop() {
        Doc.terms("STOP: how many MINUTES more THE PLATE takes to have w LIGHT minutes (0 .. 999), not SHUT from now on, unguided; "
            + "NONE: it is LOST ahead of that.");
        HeldOnCross x = Check.mounted("m10 9 20;");
        Check.due("none: now", x.stop(0), 0);
        Check.due("one", x.stop(1), 1);
        Check.due("up to L", x.stop(20), 20);
        Check.due("LOST ahead of that", x.stop(21), NONE);
        x.minute(4);
        Check.due("fewer than it has", x.stop(3), 0);
        Check.due("as many as it has", x.stop(4), 0);
        Check.due("one more", x.stop(5), 1);
        x.shut(true);
        x.minute(2);
        Check.due("not SHUT from now on", x.stop(5), 1);
        Check.due("up to L", x.stop(18), 14);
        Check.due("LOST ahead of that", x.stop(19), NONE);
        x.press(-10, 0);
        Check.due("BUTTONS that wait", x.stop(28), 24);
        Check.due("LOST ahead of that", x.stop(29), NONE);
        x.press(15, 0);
        Check.due("LOST by BUTTONS", x.stop(5), NONE);
        Check.due("none needed", x.stop(4), 0);
        Check.due("999", Check.mounted("m9 9 1;").stop(999), 999);
        Check.due("998 and LOST", Check.mounted("m9 9 5;j998 105;").stop(999), NONE);
        Check.due("999 and LOST", Check.mounted("m9 9 5;j999 105;").stop(999), 999);
        x.plate();
        Check.due("of a new PLATE", x.stop(20), 20);
    }

    private static void nods() {
        Doc.terms("NODS: odds that in n MINUTES (0 .. 99) nobody nods, by q of a hundred each: a BILLION, n times made it times (100 less q) / 100 (cut each time).");
        HeldOnCross x = new HeldOnCross();
        for (int q : new int[] {0, 1, 50, 99, 100}) {
            Check.due("nods(0, " + q + ")", x.nods(0, q), 1000000000);
            Check.due("nods(1, " + q + ")", x.nods(1, q), 10000000L * (100 - q));
        }
        Check.due("nods(99, 0)", x.nods(99, 0), 1000000000);
        Check.due("nods(99, 100)", x.nods(99, 100), 0);
        Check.due("nods(4, 99)", x.nods(4, 99), 10);
        Check.due("nods(5, 99): cut", x.nods(5, 99), 0);
        // 1000000000 by halves: 9 are whole, the tenth is 976562.5
        Check.due("nods(9, 50)", x.nods(9, 50), 1953125);
        Check.due("nods(10, 50)", x.nods(10, 50), 976562);
        Check.due("nods(11, 50)", x.nods(11, 50), 488281);
        Check.due("nods(29, 50)", x.nods(29, 50), 1);
        Check.due("nods(30, 50)", x.nods(30, 50), 0);
        Check.due("nods(99, 1)", x.nods(99, 1), 369729607);
    }

    private static void promises() {
        Doc.promise(15, "WHERE: what = 0 EAST, 1 NORTH, and 10000. OUTSIDE, NOT: no MOUNT.");
        dueRefusals("where", true, new int[][] {{-1, 0}, {1000, 0}, {0, -1}, {0, 2}, {Integer.MIN_VALUE, 0}, {0, Integer.MAX_VALUE}});
        Doc.promise(16, "LOST WHEN; NONE. NOT: no MOUNT, it is LOST.");
        dueRefusals("lostWhen", false, new int[][] {});
        Doc.promise(17, "STRETCH. OUTSIDE, NOT: no MOUNT.");
        dueRefusals("stretch", true, new int[][] {{-1}, {1000}, {Integer.MIN_VALUE}, {Integer.MAX_VALUE}});
        Doc.promise(18, "BEST RULE: what = 0 it, 1 the TAIL. OUTSIDE, NOT: no MOUNT.");
        dueRefusals("bestRule", true, new int[][] {{0, 0}, {201, 0}, {-1, 0}, {1, -1}, {1, 2}, {Integer.MAX_VALUE, 0}, {1, Integer.MIN_VALUE}});
        Doc.promise(19, "NODDED: i = NONE how many, else the i-th; NONE (i below -1, too). OUTSIDE (h, f as for rule()), NOT: no MOUNT.");
        dueRefusals("nodded", true, new int[][] {{-1, 1, 9, 1, 0, 0}, {100, 1, 9, 1, 0, 0}, {0, -1, 9, 1, 0, 0}, {0, 21, 9, 1, 0, 0},
            {0, 1, 0, 1, 0, 0}, {0, 1, 61, 1, 0, 0}, {0, 1, 9, 0, 0, 0}, {0, 1, 9, 21, 0, 0}, {0, 1, 9, 1, -1, 0}, {0, 1, 9, 1, 10000, 0},
            {-1, 1, 9, 1, 0, -2}, {0, 1, 1, 21, 0, -1}, {0, 1, 9, Integer.MIN_VALUE, 0, 0}, {0, 1, Integer.MAX_VALUE, 1, 0, 0}});
        Check.due("i below -1 is not OUTSIDE", Check.mounted("m9 9 9;").nodded(0, 1, 9, 1, 0, -2), NONE);
        Check.due("i below -1, no MOUNT", new HeldOnCross().nodded(0, 1, 9, 1, 0, -2), NOT);
        Doc.promise(20, "GUIDE; NONE. OUTSIDE.");
        Check.due("no MOUNT", new HeldOnCross().guide(1), NONE);
        dueOutside("guide", new int[][] {{0}, {10}, {-1}, {Integer.MIN_VALUE}, {Integer.MAX_VALUE}});
        Doc.promise(21, "TURNS. OUTSIDE, NOT: no MOUNT.");
        dueRefusals("turns", true, new int[][] {{-1, 0}, {100, 0}, {0, -1}, {0, 1000}, {Integer.MAX_VALUE, 0}, {0, Integer.MIN_VALUE}});
        Doc.promise(22, "STOP; NONE. OUTSIDE, NOT: no MOUNT, it is LOST.");
        dueRefusals("stop", false, new int[][] {{-1}, {1000}, {Integer.MIN_VALUE}, {Integer.MAX_VALUE}});
        Check.due("LOST, with the LIGHT there already", States.lost().stop(0), NOT);
        Doc.promise(23, "NODS (q 0 .. 100). OUTSIDE.");
        Check.due("no MOUNT", new HeldOnCross().nods(1, 1), 990000000);
        dueOutside("nods", new int[][] {{-1, 0}, {100, 0}, {0, -1}, {0, 101}, {Integer.MIN_VALUE, 0}, {0, Integer.MAX_VALUE}});
    }

    private static void dueOutside(String name, int[][] bad) {
        Calls.Call call = Calls.named(name);
        for (int[] a : bad) {
            Check.due(call.told(a), call.act().of(States.busy(), a), OUTSIDE);
            Check.due(call.told(a) + " without MOUNT", call.act().of(new HeldOnCross(), a), OUTSIDE);
            Check.due(call.told(a) + " when LOST", call.act().of(States.lost(), a), OUTSIDE);
        }
    }

    private static void dueRefusals(String name, boolean isAnsweredWhenLost, int[][] bad) {
        dueOutside(name, bad);
        Calls.Call call = Calls.named(name);
        Check.due("no MOUNT", call.of(new HeldOnCross()), NOT);
        if (isAnsweredWhenLost) {
            Check.holds("answered when LOST", call.of(States.lost()) >= NONE);
        } else {
            Check.due("LOST", call.of(States.lost()), NOT);
        }
        Check.holds("answered above 9000", call.of(States.late()) >= NONE);
    }
}
