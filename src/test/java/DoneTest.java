/** Promises 8 to 14: minute, press, rule, shut, plate, drift, undo. */
public final class DoneTest {
    private static final int OUTSIDE = -1000000002, NOT = -1000000003, FULL = -1000000004;
    /** CLOCK 1, AXIS -2, L 60, THE WORM 3, 0, -3, a JUMP of 11 at minute 4, BUTTONS of 2. */
    private static final String TEXT = "m10 7 60;w12,9,6;j4 110;b2;";

    public static void main(String[] args) {
        minutes();
        lostEachWay();
        lostWithinMinutes();
        press();
        rule();
        ruleEdges();
        ruleLost();
        shut();
        plate();
        drift();
        full();
        refusals();
        undo();
        undoBringsAllBack();
        undoBringsTheTailBack();
        undoKeepsTwenty();
        Check.end("DoneTest");
    }

    private static void minutes() {
        HeldOnCross x = Check.mounted(TEXT);
        Check.due("minute 0", x.minute(1), 10004);
        Check.dueNight("behind minute 0", x, 1, 4, -2, 0, 0, 1, 0);
        Check.due("minute 1", x.minute(1), 10005);
        Check.due("minute 2", x.minute(1), 10003);
        Check.due("minute 3", x.minute(1), 10007);
        Check.dueNight("behind minute 3", x, 4, 7, -8, 0, 0, 4, 6);
        Check.due("minute 4, of the JUMP", x.minute(1), 10019);
        Check.dueNight("behind minute 4", x, 5, 19, -10, 0, 0, 5, 16);
        Check.due("minute 5", x.minute(1), 10017);
        Check.dueNight("behind minute 5", x, 6, 17, -12, 0, 0, 6, 16);
        HeldOnCross y = Check.mounted(TEXT);
        Check.due("six at once", y.minute(6), 10017);
        Check.dueNight("behind six", y, 6, 17, -12, 0, 0, 6, 16);
        Check.due("99 at most", Check.mounted("m9 9 1;").minute(99), 10000);
        Check.due("the JUMP at minute 0", Check.mounted("m9 9 99;j0 0;").minute(1), 9901);
    }

    private static void lostEachWay() {
        String[] texts = {"m10 9 10;", "m8 9 10;", "m9 10 10;", "m9 8 10;"};
        int[] east = {1, -1, 0, 0};
        int[] north = {0, 0, 1, -1};
        for (int i = 0; i < texts.length; i++) {
            HeldOnCross x = Check.mounted(texts[i]);
            Check.due("at L", x.minute(10), 10000 + 10 * east[i]);
            Check.dueNight("at L " + i, x, 10, 10 * east[i], 10 * north[i], 0, 0, 10, 9);
            Check.due("beyond L", x.minute(1), 10000 + 11 * east[i]);
            Check.dueNight("beyond L " + i, x, 11, 11 * east[i], 11 * north[i], 1, 0, 10, 9);
        }
    }

    private static void lostWithinMinutes() {
        HeldOnCross x = Check.mounted("m10 9 10;");
        Check.due("minute(20)", x.minute(20), 10011);
        Check.dueNight("LOST within 20", x, 11, 11, 0, 1, 0, 10, 9);
        Check.due("minute(1) when LOST", x.minute(1), NOT);
        Check.due("press() when LOST", x.press(0, 0), NOT);
        Check.due("rule() when LOST", x.rule(0, 10, 1), NOT);
        Check.due("drift() when LOST", x.drift(1), NOT);
        Check.dueNight("nothing changed", x, 11, 11, 0, 1, 0, 10, 9);
        Check.due("shut() when LOST", x.shut(true), 0);
        Check.due("plate() when LOST", x.plate(), 9);
        Check.dueNight("a new PLATE", x, 11, 0, 0, 0, 0, 0, 0);
        // one that comes back within L in the minute itself is not LOST
        HeldOnCross y = Check.mounted("m9 9 10;j1 60;b1;");
        y.minute(1);
        y.press(45, 0);
        Check.due("press() and JUMP in one minute", y.minute(1), 10006);
        Check.due("not LOST", y.told(13), 0);
    }

    private static void press() {
        HeldOnCross x = Check.mounted(TEXT);
        Check.due("press(2, -3)", x.press(2, -3), 1);
        Check.dueNight("they wait", x, 0, 0, 0, 0, 0, 0, 0);
        Check.due("they move it", x.minute(1), 10008);
        Check.due("NORTH too", x.told(12), 9992);
        Check.due("once", x.minute(1), 10009);
        Check.due("NORTH once", x.told(12), 9990);
        x.press(9, 9);
        x.press(-1, 0);
        Check.due("those that wait are replaced", x.minute(1), 10005);
        Check.due("NORTH by AXIS alone", x.told(12), 9988);
        x.press(9, 9);
        x.press(0, 0);
        Check.due("replaced by none", x.minute(1), 10009);
        HeldOnCross y = Check.mounted("m9 9 999;b9;");
        Check.due("press(99, -99)", y.press(99, -99), 1);
        Check.due("99 times 9", y.minute(1), 10891);
        Check.due("-99 times 9", y.told(12), 9109);
        Check.due("press(100, 0)", y.press(100, 0), OUTSIDE);
        Check.due("press(-100, 0)", y.press(-100, 0), OUTSIDE);
        Check.due("press(0, 100)", y.press(0, 100), OUTSIDE);
        Check.due("press(0, -100)", y.press(0, -100), OUTSIDE);
        Check.due("press(-99, 99)", y.press(-99, 99), 1);
        Check.due("back", y.minute(1), 10000);
        HeldOnCross z = Check.mounted("m9 9 10;");
        z.press(11, 0);
        Check.due("LOST by BUTTONS", z.minute(3), 10011);
        Check.dueNight("LOST by BUTTONS", z, 1, 11, 0, 1, 0, 0, 0);
    }

    private static void rule() {
        // CLOCK 3, AXIS -4, BUTTONS of 3
        HeldOnCross x = Check.mounted("m12 5 500;b3;");
        Check.due("rule(0, 10, 4)", x.rule(0, 10, 4), 3);
        Check.dueNight("behind it", x, 4, 3, -4, 0, 0, 4, 2);
        HeldOnCross y = Check.mounted("m12 9 500;");
        Check.due("not farther than h", y.rule(3, 10, 2), 0);
        Check.due("twice 3", y.told(11), 10006);
        Check.due("farther than h", y.rule(3, 10, 1), 1);
        Check.due("pressed back to 0, and 3", y.told(11), 10003);
        HeldOnCross z = Check.mounted("m6 9 500;");
        Check.due("not farther than h, westward", z.rule(3, 10, 2), 0);
        Check.due("farther, westward", z.rule(3, 10, 1), 1);
        Check.due("-3", z.told(11), 9997);
        HeldOnCross n = Check.mounted("m9 14 500;");
        Check.due("NORTH alone", n.rule(0, 10, 3), 2);
        Check.due("5", n.told(12), 10005);
    }

    private static void ruleEdges() {
        HeldOnCross x = Check.mounted("m9 9 999;b9;");
        x.press(3, -5);
        x.minute(1);
        Check.due("times 10 / 10 / 9, cut", x.rule(0, 10, 1), 2 - 1);
        Check.due("27 less 3 times 9", x.told(11), 10000);
        Check.due("-45 and 5 times 9", x.told(12), 10000);
        x.press(1, -1);
        x.minute(1);
        Check.due("9 by 9 tenths is 8, less than a press of 9", x.rule(0, 9, 1), 0);
        Check.due("it stays", x.told(11), 10009);
        Check.due("it stays NORTH", x.told(12), 9991);
        Check.due("f = 20: twice", x.rule(0, 20, 1), 1);
        Check.due("on the other side", x.told(11), 9991);
        Check.due("f = 0: never", x.rule(0, 0, 5), 0);
        Check.due("h = 99: not this near", x.rule(99, 20, 5), 0);
        Check.due("it stays still", x.told(11), 9991);
        x.plate();
        x.press(50, 50);
        Check.due("in place of what waits", x.rule(0, 10, 1), 0);
        Check.due("no move", x.told(11), 10000);
        Check.due("nothing waits behind it", x.minute(1), 10000);
        Check.due("rule(-1, 1, 1)", x.rule(-1, 1, 1), OUTSIDE);
        Check.due("rule(100, 1, 1)", x.rule(100, 1, 1), OUTSIDE);
        Check.due("rule(0, -1, 1)", x.rule(0, -1, 1), OUTSIDE);
        Check.due("rule(0, 21, 1)", x.rule(0, 21, 1), OUTSIDE);
        Check.due("rule(0, 1, 0)", x.rule(0, 1, 0), OUTSIDE);
        Check.due("rule(0, 1, 100)", x.rule(0, 1, 100), OUTSIDE);
        Check.due("rule(99, 20, 99)", x.rule(99, 20, 99), 0);
    }

    private static void ruleLost() {
        // EAST 15, then pressed 30 against it and 3 on: -18
        HeldOnCross x = Check.mounted("m6 9 17;j0 117;");
        Check.due("rule(0, 20, 5)", x.rule(0, 20, 5), 1);
        Check.dueNight("LOST by the rule", x, 2, -18, 0, 1, 0, 1, 0);
        x.plate();
        Check.due("nothing waits on the new PLATE", x.minute(1), 9997);
    }

    private static void shut() {
        HeldOnCross x = Check.mounted(TEXT);
        Check.due("shut(false)", x.shut(false), 0);
        x.minute(1);
        Check.due("shut(true)", x.shut(true), 0);
        Check.due("shut(true) again", x.shut(true), 1);
        x.minute(2);
        Check.dueNight("SHUT", x, 3, 3, -6, 0, 1, 1, 0);
        Check.due("shut(false)", x.shut(false), 1);
        Check.due("shut(false) again", x.shut(false), 0);
        x.minute(1);
        Check.dueNight("open", x, 4, 7, -8, 0, 0, 2, 6);
        HeldOnCross y = Check.mounted("m18 9 10;");
        y.shut(true);
        y.minute(9);
        Check.dueNight("LOST while SHUT", y, 2, 18, 0, 1, 1, 0, 0);
        // what is gathered first is the least and the greatest at once, whatever 0 is
        HeldOnCross z = Check.mounted("m18 9 99;");
        z.shut(true);
        z.minute(3);
        z.shut(false);
        z.minute(2);
        Check.dueNight("gathered 36, 45", z, 5, 45, 0, 0, 0, 2, 9);
    }

    private static void plate() {
        HeldOnCross x = Check.mounted(TEXT);
        x.minute(5);
        x.shut(true);
        x.press(9, 9);
        Check.due("TAIL of the old one", x.plate(), 16);
        Check.dueNight("a new PLATE", x, 5, 0, 0, 0, 0, 0, 0);
        Check.due("minute 5", x.minute(1), 9998);
        Check.dueNight("behind it", x, 6, -2, -2, 0, 0, 1, 0);
        Check.due("one place, no TAIL", x.plate(), 0);
        Check.due("no LIGHT, no TAIL", x.plate(), 0);
        HeldOnCross y = Check.mounted("m10 13 99;");
        y.minute(4);
        Check.due("NORTH the greater", y.plate(), 12);
    }

    private static void drift() {
        // by THE SEED 0 the dances are -2 1, 1 0, 1 0, -2 -1, 0 -2, -1 0
        HeldOnCross x = Check.mounted("m9 9 99;");
        Check.due("drift(1)", x.drift(1), 9998);
        Check.dueNight("behind it", x, 1, -2, 1, 0, 0, 1, 0);
        Check.due("drift(5)", x.drift(5), 9997);
        Check.dueNight("behind 6", x, 6, -3, -2, 0, 0, 6, 3);
        Check.due("THE SEED", x.seed(0), 1772930244);
        x.press(3, 4);
        Check.due("BUTTONS that wait", x.drift(1), 9998);
        Check.due("NORTH", x.told(12), 10003);
        Check.due("once", x.drift(1), 9999);
        HeldOnCross y = Check.mounted("m17 9 11;");
        Check.due("drift(9) till it is LOST", y.drift(9), 10015);
        Check.dueNight("LOST", y, 2, 15, 1, 1, 0, 1, 0);
        y.plate();
        y.seed(0);
        y.drift(1);
        int seedBehindOne = y.seed(0);
        Check.due("two draws a minute", seedBehindOne, drawn(0, 2));
        HeldOnCross z = Check.mounted("m9 9 1;");
        z.drift(50);
        Check.due("LOST in its first minute", z.told(10), 1);
        Check.due("no DRAW behind it", z.seed(0), drawn(0, 2));
        Check.due("drift(0)", x.drift(0), OUTSIDE);
        Check.due("drift(100)", x.drift(100), OUTSIDE);
    }

    private static int drawn(long seed, int times) {
        for (int i = 0; i < times; i++) {
            seed = (seed * 1103515245L + 12345L) % (1L << 31);
        }
        return (int) seed;
    }

    private static void full() {
        HeldOnCross x = Check.mounted("m9 9 1;");
        for (int i = 0; i < 90; i++) {
            x.minute(99);
        }
        Check.due("minute(90)", x.minute(90), 10000);
        Check.due("9000", x.told(10), 9000);
        Check.due("at 9000", x.minute(99), 10000);
        Check.due("9099", x.told(10), 9099);
        Check.due("minute() above 9000", x.minute(1), FULL);
        Check.due("rule() above 9000", x.rule(0, 1, 1), FULL);
        Check.due("drift() above 9000", x.drift(1), FULL);
        Check.due("minute(0) above 9000", x.minute(0), OUTSIDE);
        Check.due("nothing passed", x.told(10), 9099);
        Check.due("press() above 9000", x.press(2, 0), 1);
        Check.due("where() above 9000", x.where(1, 0), 10002);
        Check.due("plate() above 9000", x.plate(), 0);
        x.undo();
        x.undo();
        Check.due("undo()", x.undo(), 17);
        Check.due("9000 again", x.told(10), 9000);
        Check.due("rule() at 9000", x.rule(0, 1, 1), 0);
        Check.due("rule() at 9001", x.rule(0, 1, 1), FULL);
        x.undo();
        x.press(2, 0);
        x.minute(1);
        Check.due("9001, LOST", x.told(10) * 10 + x.told(13), 90011);
        Check.due("NOT is ahead of FULL", x.minute(1), NOT);
        Check.due("NOT is ahead of FULL, rule()", x.rule(0, 1, 1), NOT);
        Check.due("NOT is ahead of FULL, drift()", x.drift(1), NOT);
        Check.due("a new PLATE", x.plate(), 0);
        Check.due("FULL still", x.drift(1), FULL);
    }

    private static void refusals() {
        HeldOnCross x = new HeldOnCross();
        Check.due("minute(0)", x.minute(0), OUTSIDE);
        Check.due("minute(100)", x.minute(100), OUTSIDE);
        Check.due("minute(least int)", x.minute(Integer.MIN_VALUE), OUTSIDE);
        Check.due("minute(greatest int)", x.minute(Integer.MAX_VALUE), OUTSIDE);
        Check.due("minute(1)", x.minute(1), NOT);
        Check.due("press(100, 0)", x.press(100, 0), OUTSIDE);
        Check.due("press(0, 0)", x.press(0, 0), NOT);
        Check.due("rule(100, 1, 1)", x.rule(100, 1, 1), OUTSIDE);
        Check.due("rule(0, 1, 0)", x.rule(0, 1, 0), OUTSIDE);
        Check.due("rule(0, 1, 1)", x.rule(0, 1, 1), NOT);
        Check.due("drift(100)", x.drift(100), OUTSIDE);
        Check.due("drift(1)", x.drift(1), NOT);
        Check.due("shut(true)", x.shut(true), NOT);
        Check.due("plate()", x.plate(), NOT);
        Check.due("undo()", x.undo(), NOT);
        Check.due("nothing to undo", x.told(20), 0);
    }

    private static void undo() {
        HeldOnCross x = Check.mounted(TEXT);
        x.minute(2);
        x.rule(0, 10, 2);
        x.press(1, 1);
        x.shut(true);
        x.plate();
        x.drift(3);
        Check.due("six can be undone", x.told(20), 6);
        x.minute(0);
        x.press(100, 0);
        x.rule(0, 21, 1);
        x.drift(100);
        Check.due("what is refused cannot", x.told(20), 6);
        x.where(5, 0);
        x.bestRule(5, 0);
        x.see(1, 1);
        Check.due("what is tried or seen cannot", x.told(20), 6);
        for (int left = 5; left >= 0; left--) {
            Check.due("undo()", x.undo(), left);
        }
        Check.dueNight("as at first", x, 0, 0, 0, 0, 0, 0, 0);
        Check.due("none more", x.undo(), NOT);
        Check.due("none more is 0", x.told(20), 0);
        Check.due("SEEN stays", x.told(17), 1);
        Check.due("THE SEED stays", x.seed(0), drawn(0, 6));
    }

    private static void undoBringsAllBack() {
        HeldOnCross x = Check.mounted(TEXT);
        x.minute(3);
        x.press(2, 2);
        x.shut(true);
        x.plate();
        x.undo();
        Check.dueNight("ahead of plate()", x, 3, 3, -6, 0, 1, 3, 4);
        Check.due("what waited waits", x.where(1, 0), 10011);
        x.undo();
        Check.dueNight("ahead of shut()", x, 3, 3, -6, 0, 0, 3, 4);
        x.minute(1);
        Check.dueNight("the TAIL goes on from what it was", x, 4, 11, -4, 0, 0, 4, 8);
        x.undo();
        x.undo();
        Check.due("ahead of press()", x.where(1, 0), 10007);
        x.press(40, 0);
        x.minute(1);
        Check.due("LOST", x.told(13), 1);
        x.undo();
        Check.dueNight("not LOST", x, 3, 3, -6, 0, 0, 3, 4);
        Check.due("what waited waits", x.where(1, 0), 10087);
    }

    /** EAST and NORTH grow and shrink behind what is kept: each end of what was gathered has to come back. */
    private static void undoBringsTheTailBack() {
        int[][] there = {{9, 0}, {-9, 0}, {0, 9}, {0, -9}};
        for (int[] press : there) {
            HeldOnCross x = Check.mounted("m9 9 999;");
            x.press(20, 20);
            x.minute(1);
            x.press(press[0], press[1]);
            x.minute(1);
            Check.due("9 by BUTTONS", x.told(16), 9);
            x.undo();
            x.undo();
            Check.due("no TAIL again", x.told(16), 0);
            x.press(press[0] / 3, press[1] / 3);
            x.minute(1);
            Check.due("3 by BUTTONS", x.told(16), 3);
        }
    }

    private static void undoKeepsTwenty() {
        HeldOnCross x = Check.mounted("m10 9 999;");
        for (int i = 1; i <= 25; i++) {
            x.minute(i);
            Check.due("can be undone", x.told(20), Math.min(i, 20));
        }
        for (int i = 25; i > 5; i--) {
            Check.due("undo()", x.undo(), i - 6);
            Check.due("EAST", x.told(11), 10000 + i * (i - 1) / 2);
        }
        Check.due("the oldest are lost", x.undo(), NOT);
        Check.due("EAST stays", x.told(11), 10015);
        for (int i = 0; i < 3; i++) {
            x.minute(1);
        }
        Check.due("three more", x.told(20), 3);
        Check.due("undo()", x.undo(), 2);
        Check.due("EAST", x.told(11), 10017);
    }
}
