/** Section 2 of "Terms", MINUTES, and promises 8 to 12. */
final class MinuteSentences {
    private static final int OUTSIDE = -1000000002, NOT = -1000000003, FULL = -1000000004;

    private MinuteSentences() {
    }

    static void all() {
        fromZero();
        atFirst();
        buttonsFirst();
        drifts();
        lost();
        gathers();
        waits();
        byARule();
        pressedMinutes();
        newPlate();
        tail();
        minute();
        press();
        rule();
        shut();
        plate();
    }

    private static void fromZero() {
        Doc.terms("======== 2 MINUTES are counted from 0.");
        HeldOnCross x = Check.mounted("m9 9 99;j0 104;");
        Check.due("none yet", x.told(10), 0);
        Check.due("the first has number 0, that of the JUMP", x.minute(1), 10005);
        Check.due("one", x.told(10), 1);
        x.minute(99);
        Check.due("a hundred", x.told(10), 100);
    }

    private static void atFirst() {
        Doc.terms("THE STAR is at EAST 0, NORTH 0 at first.");
        HeldOnCross x = Check.mounted("m18 18 99;w18;j0 198;");
        Check.duePlace("at first", x, 0, 0);
        Check.due("where(0, 0)", x.where(0, 0), 10000);
        Check.due("where(0, 1)", x.where(0, 1), 10000);
    }

    private static void buttonsFirst() {
        Doc.terms("A MINUTE (number t): first BUTTONS that wait move it (presses times G, EAST and NORTH);");
        HeldOnCross x = Check.mounted("m9 9 999;b9;");
        x.press(99, -99);
        x.minute(1);
        Check.duePlace("99 and -99 times 9", x, 891, -891);
        x.minute(1);
        Check.duePlace("once", x, 891, -891);
        // beyond L by BUTTONS, but back at it in the same MINUTE
        HeldOnCross y = Check.mounted("m0 18 10;");
        y.press(19, -19);
        y.minute(1);
        Check.dueNight("at L behind the MINUTE", y, 1, 10, -10, 0, 0, 1, 0);
        HeldOnCross z = Check.mounted("m0 18 10;");
        z.press(20, 0);
        z.minute(1);
        Check.dueNight("beyond L behind it", z, 1, 11, 9, 1, 0, 0, 0);
    }

    private static void drifts() {
        Doc.terms("then it drifts: EAST by CLOCK, THE WORM at t, and the JUMP, if t is its minute; NORTH by AXIS.");
        // CLOCK 3, AXIS -5, THE WORM 2, -1, a JUMP of 10 at minute 2
        HeldOnCross x = Check.mounted("m12 4 99;w11,8;j2 109;");
        int[] east = {5, 7, 22, 24, 29, 31};
        for (int t = 0; t < east.length; t++) {
            x.minute(1);
            Check.duePlace("behind minute " + t, x, east[t], -5 * (t + 1));
        }
        HeldOnCross least = Check.mounted("m0 0 999;w0;j0 0;");
        least.minute(1);
        Check.duePlace("all at their least", least, -9 - 9 - 99, -9);
        HeldOnCross most = Check.mounted("m18 18 999;w18;j0 198;");
        most.minute(1);
        Check.duePlace("all at their greatest", most, 9 + 9 + 99, 9);
    }

    private static void lost() {
        Doc.terms("If it is beyond L, EAST or NORTH, it is LOST (till a new PLATE; no MINUTE more then, also within n).");
        String[] texts = {"m11 9 6;", "m7 9 6;", "m9 11 6;", "m9 7 6;"};
        for (int i = 0; i < texts.length; i++) {
            int east = i == 0 ? 2 : i == 1 ? -2 : 0;
            int north = i == 2 ? 2 : i == 3 ? -2 : 0;
            HeldOnCross x = Check.mounted(texts[i]);
            x.minute(3);
            Check.dueNight("at L", x, 3, 3 * east, 3 * north, 0, 0, 3, 4);
            x.minute(1);
            Check.dueNight("beyond L", x, 4, 4 * east, 4 * north, 1, 0, 3, 4);
            HeldOnCross y = Check.mounted(texts[i]);
            y.minute(99);
            Check.dueNight("no MINUTE more within n", y, 4, 4 * east, 4 * north, 1, 0, 3, 4);
            HeldOnCross z = Check.mounted(texts[i]);
            Check.due("nor within those of a RULE", z.rule(99, 0, 99), 0);
            Check.dueNight("LOST by a RULE", z, 4, 4 * east, 4 * north, 1, 0, 3, 4);
            Check.due("minute(1)", z.minute(1), NOT);
            Check.due("rule(0, 10, 1)", z.rule(0, 10, 1), NOT);
            Check.due("drift(1)", z.drift(1), NOT);
            z.shut(true);
            z.shut(false);
            z.see(1, 1);
            z.keep(0);
            z.goBack(0);
            Check.due("LOST still", z.told(13), 1);
            z.plate();
            Check.due("till a new PLATE", z.told(13), 0);
            Check.holds("minute(1) again", z.minute(1) > 0);
            Check.due("MINUTE 5", z.told(10), 5);
        }
        HeldOnCross first = Check.mounted("m11 9 1;");
        first.minute(2);
        Check.dueNight("LOST in its first MINUTE", first, 1, 2, 0, 1, 0, 0, 0);
        HeldOnCross last = Check.mounted("m10 9 98;");
        last.minute(99);
        Check.dueNight("LOST in the last of n", last, 99, 99, 0, 1, 0, 98, 97);
        HeldOnCross danced = Check.mounted("m18 9 20;");
        danced.drift(99);
        Check.due("no MINUTE more within those by draws", danced.told(10) * 10 + danced.told(13), 31);
    }

    private static void gathers() {
        Doc.terms("Else THE PLATE, if it is not SHUT, gathers where it is: LIGHT minutes 1 more, the least and the greatest EAST, NORTH so far.");
        HeldOnCross x = Check.mounted("m9 9 99;");
        Check.dueNight("nothing gathered", x, 0, 0, 0, 0, 0, 0, 0);
        goTo(x, 30, 40);
        Check.dueNight("one place: it is the least and the greatest", x, 1, 30, 40, 0, 0, 1, 0);
        goTo(x, 28, 40);
        Check.dueNight("a lesser EAST", x, 2, 28, 40, 0, 0, 2, 2);
        goTo(x, 33, 40);
        Check.dueNight("a greater EAST", x, 3, 33, 40, 0, 0, 3, 5);
        goTo(x, 30, 34);
        Check.dueNight("a lesser NORTH", x, 4, 30, 34, 0, 0, 4, 6);
        goTo(x, 30, 45);
        Check.dueNight("a greater NORTH", x, 5, 30, 45, 0, 0, 5, 11);
        x.shut(true);
        goTo(x, 60, 60);
        Check.dueNight("SHUT", x, 6, 60, 60, 0, 1, 5, 11);
        x.shut(false);
        goTo(x, 29, 41);
        Check.dueNight("between them", x, 7, 29, 41, 0, 0, 6, 11);
        x.press(99, 0);
        x.minute(1);
        Check.dueNight("LOST: not gathered", x, 8, 128, 41, 1, 0, 6, 11);
        HeldOnCross west = Check.mounted("m9 9 99;");
        goTo(west, -30, -40);
        Check.dueNight("0 was not gathered", west, 1, -30, -40, 0, 0, 1, 0);
    }

    /** One MINUTE by BUTTONS of 1 and no drift. */
    private static void goTo(HeldOnCross x, int east, int north) {
        x.press(east + 10000 - x.told(11), north + 10000 - x.told(12));
        x.minute(1);
    }

    private static void waits() {
        Doc.terms("PRESSED: BUTTONS wait for the next MINUTE (those that wait are replaced).");
        HeldOnCross x = Check.mounted("m9 9 99;");
        x.press(5, 7);
        Check.duePlace("they wait", x, 0, 0);
        x.shut(true);
        x.see(1, 1);
        x.where(9, 0);
        Check.duePlace("they wait still", x, 0, 0);
        x.press(2, 0);
        x.press(0, 3);
        x.minute(1);
        Check.duePlace("the latest alone, both ways", x, 0, 3);
        x.press(5, 5);
        x.press(0, 0);
        x.minute(1);
        Check.duePlace("replaced by none", x, 0, 3);
        x.press(4, 4);
        x.minute(3);
        Check.duePlace("for the next MINUTE alone", x, 4, 7);
        x.press(1, 1);
        x.drift(1);
        Check.due("they wait for one by draws, too", Math.abs(x.told(11) - 10005) <= 2 ? 1 : 0, 1);
        Check.due("and no more", x.where(1, 0), x.told(11));
    }

    private static void byARule() {
        Doc.terms("By a RULE (h, f) for n MINUTES: ahead of each MINUTE (in place of what waits), for EAST and NORTH alike: "
            + "if the place is farther than h from 0 (either way): PRESSED against it, place times f / 10 / G times "
            + "(each cut towards 0); else not (0 times).");
        for (int h : new int[] {0, 1, 98, 99}) {
            for (int way : new int[] {1, -1}) {
                dueByRule(way * h, h, 10, way * h);
                dueByRule(way * (h + 1), h, 10, 0);
            }
        }
        for (int way : new int[] {1, -1}) {
            dueByRule(way * 100, 0, 0, way * 100);
            dueByRule(way * 100, 0, 1, way * 90);
            dueByRule(way * 9, 0, 1, way * 9);
            dueByRule(way * 10, 0, 1, way * 9);
            dueByRule(way * 100, 0, 19, way * -90);
            dueByRule(way * 100, 0, 20, way * -100);
        }
        HeldOnCross x = Check.mounted("m9 9 99;b9;");
        x.press(1, -1);
        x.minute(1);
        Check.due("9 tenths of 9 are less than a press of 9", x.rule(0, 9, 1), 0);
        Check.due("9 is one of 9", x.rule(8, 10, 1), 1);
        Check.duePlace("back", x, 0, 0);
        x.press(9, 9);
        Check.due("in place of what waits, though not pressed", x.rule(0, 10, 1), 0);
        Check.duePlace("not moved", x, 0, 0);
        x.minute(1);
        Check.duePlace("what waited is gone", x, 0, 0);
        // 999 by f = 20 and BUTTONS of 1: more presses than press() takes
        HeldOnCross far = Check.mounted("m9 9 999;");
        for (int i = 0; i < 9; i++) {
            far.press(99, 0);
            far.minute(1);
        }
        Check.due("rule(0, 20, 1)", far.rule(0, 20, 1), 1);
        Check.duePlace("891 and as far on the other side", far, -891, 0);
        HeldOnCross ahead = Check.mounted("m10 9 99;");
        ahead.rule(0, 10, 1);
        Check.duePlace("the first is ahead of its drift", ahead, 1, 0);
        ahead.rule(0, 10, 1);
        Check.duePlace("each is", ahead, 1, 0);
    }

    /** From a place, EAST and NORTH alike, one MINUTE by a RULE; nothing drifts, BUTTONS of 1. */
    private static void dueByRule(int place, int h, int f, int behind) {
        for (int which = 0; which < 3; which++) {
            HeldOnCross x = Check.mounted("m9 9 200;");
            int east = which == 1 ? 0 : place;
            int north = which == 0 ? 0 : place;
            x.press(east / 2, north / 2);
            x.minute(1);
            x.press(east - east / 2, north - north / 2);
            x.minute(1);
            Check.duePlace("ahead of the RULE", x, east, north);
            Check.due("rule(" + h + ", " + f + ", 1) at " + place, x.rule(h, f, 1), place == behind ? 0 : 1);
            Check.duePlace("rule(" + h + ", " + f + ", 1) at " + place, x, which == 1 ? 0 : behind, which == 0 ? 0 : behind);
        }
    }

    private static void pressedMinutes() {
        Doc.terms("A MINUTE in which something is PRESSED: EAST or NORTH not 0 times.");
        Check.due("EAST alone", Check.mounted("m10 9 99;").rule(0, 10, 9), 8);
        Check.due("NORTH alone", Check.mounted("m9 8 99;").rule(0, 10, 9), 8);
        Check.due("both: one MINUTE each", Check.mounted("m10 8 99;").rule(0, 10, 9), 8);
        Check.due("neither", Check.mounted("m9 9 99;").rule(0, 10, 9), 0);
        Check.due("farther than h, but 0 times", Check.mounted("m9 9 99;j0 108;").rule(0, 1, 9), 0);
        Check.due("in turns", Check.mounted("m9 9 99;w10,8;").rule(0, 10, 9), 8);
        // LOST in the MINUTE in which it was PRESSED
        HeldOnCross x = Check.mounted("m6 9 17;j0 117;");
        Check.due("that in which it is LOST counts", x.rule(0, 20, 9), 1);
        Check.due("LOST", x.told(10) * 10 + x.told(13), 21);
    }

    private static void newPlate() {
        Doc.terms("A new PLATE: THE STAR at 0, 0, nothing gathered, not LOST, not SHUT, nothing waits; MINUTES go on.");
        HeldOnCross x = Check.mounted("m11 8 9;w9,10;");
        x.shut(true);
        x.minute(1);
        x.shut(false);
        x.minute(2);
        x.press(3, 3);
        x.shut(true);
        Check.dueNight("ahead of it", x, 3, 7, -3, 0, 1, 2, 2);
        x.plate();
        Check.dueNight("a new PLATE", x, 3, 0, 0, 0, 0, 0, 0);
        Check.due("nothing waits; THE WORM at minute 3", x.minute(1), 10003);
        Check.dueNight("gathers again", x, 4, 3, -1, 0, 0, 1, 0);
        x.minute(9);
        Check.due("LOST", x.told(13), 1);
        x.plate();
        Check.dueNight("not LOST", x, 7, 0, 0, 0, 0, 0, 0);
        x.plate();
        Check.dueNight("twice is as once", x, 7, 0, 0, 0, 0, 0, 0);
    }

    private static void tail() {
        Doc.terms("TAIL: the greatest less the least EAST, and likewise NORTH, the greater of both; 0 without LIGHT.");
        HeldOnCross x = Check.mounted("m9 9 999;");
        Check.due("0 without LIGHT", x.told(16), 0);
        x.shut(true);
        goTo(x, 50, 50);
        goTo(x, 70, 70);
        Check.due("0 without LIGHT, though it moved", x.told(16), 0);
        x.shut(false);
        goTo(x, 70, 70);
        Check.due("0 by one place", x.told(16), 0);
        goTo(x, 68, 73);
        Check.due("NORTH the greater", x.told(16), 3);
        goTo(x, 74, 73);
        Check.due("EAST the greater", x.told(16), 6);
        goTo(x, 74, 76);
        Check.due("both alike", x.told(16), 6);
        goTo(x, 0, 0);
        goTo(x, -20, 0);
        Check.due("on both sides of 0", x.told(16), 94);
        HeldOnCross far = Check.mounted("m9 9 999;b9;j0 198;");
        for (int i = 0; i < 2; i++) {
            far.press(i == 0 ? 99 : 1, 0);
            far.minute(1);
        }
        Check.duePlace("at L", far, 999, 0);
        far.press(-99, 0);
        far.minute(1);
        far.press(-99, 0);
        far.minute(1);
        far.press(-24, 0);
        far.minute(1);
        Check.due("from L to L", far.told(16), 999 + 999);
    }

    private static void minute() {
        Doc.promise(8, "n MINUTES (1 .. 99) unguided: EAST, and 10000.");
        Check.due("minute(1)", Check.mounted("m10 9 99;").minute(1), 10001);
        Check.due("minute(99)", Check.mounted("m10 9 99;").minute(99), 10099);
        Check.due("minute(99) westward", Check.mounted("m8 9 99;").minute(99), 9901);
        Check.due("LOST on the way", Check.mounted("m10 9 7;").minute(99), 10008);
        Doc.promise(8, "OUTSIDE, NOT: no MOUNT, it is LOST; FULL: MINUTES are above 9000 as it is called (n may pass that).");
        dueRefusals("minute", new int[][] {{0}, {-1}, {100}, {Integer.MIN_VALUE}, {Integer.MAX_VALUE}});
    }

    private static void press() {
        Doc.promise(9, "PRESSED so often EAST, NORTH (-99 .. 99; below 0: the other way): 1.");
        for (int[] times : new int[][] {{99, 0}, {-99, 0}, {0, 99}, {0, -99}, {1, -1}, {0, 0}, {-99, 99}}) {
            HeldOnCross x = Check.mounted("m9 9 99;");
            Check.due("press()", x.press(times[0], times[1]), 1);
            Check.due("it can be undone", x.told(20), 1);
            x.minute(1);
            Check.duePlace("behind it", x, times[0], times[1]);
        }
        Doc.promise(9, "OUTSIDE, NOT: no MOUNT, it is LOST.");
        int[][] bad = {{100, 0}, {-100, 0}, {0, 100}, {0, -100}, {Integer.MIN_VALUE, 0}, {0, Integer.MIN_VALUE}, {0, Integer.MAX_VALUE}};
        for (int[] a : bad) {
            Check.due("OUTSIDE", States.busy().press(a[0], a[1]), OUTSIDE);
            Check.due("OUTSIDE without MOUNT", new HeldOnCross().press(a[0], a[1]), OUTSIDE);
            Check.due("OUTSIDE when LOST", States.lost().press(a[0], a[1]), OUTSIDE);
        }
        Check.due("no MOUNT", new HeldOnCross().press(0, 0), NOT);
        Check.due("LOST", States.lost().press(0, 0), NOT);
        Check.due("never FULL", States.late().press(0, 0), 1);
    }

    private static void rule() {
        Doc.promise(10, "n MINUTES (1 .. 99) by a RULE (h 0 .. 99, f 0 .. 20): in how many something was PRESSED.");
        HeldOnCross x = Check.mounted("m10 9 999;");
        Check.due("rule(0, 10, 1)", x.rule(0, 10, 1), 0);
        Check.due("rule(0, 10, 99)", x.rule(0, 10, 99), 99);
        Check.due("rule(0, 0, 99)", x.rule(0, 0, 99), 0);
        Check.due("MINUTES", x.told(10), 199);
        Check.duePlace("99 more than 1", x, 100, 0);
        Check.due("rule(99, 20, 1)", x.rule(99, 20, 1), 1);
        Check.duePlace("200 less than 100, and 1", x, -99, 0);
        Check.due("rule(99, 20, 1) at -99", x.rule(99, 20, 1), 0);
        Doc.promise(10, "OUTSIDE, NOT: no MOUNT, it is LOST; FULL: MINUTES are above 9000 as it is called (n may pass that).");
        dueRefusals("rule", new int[][] {{-1, 1, 1}, {100, 1, 1}, {1, -1, 1}, {1, 21, 1}, {1, 1, 0}, {1, 1, 100}, {1, 1, -1},
            {Integer.MIN_VALUE, 1, 1}, {1, Integer.MAX_VALUE, 1}, {1, 1, Integer.MIN_VALUE}});
    }

    /** Of minute, rule and drift alike. */
    static void dueRefusals(String name, int[][] bad) {
        Calls.Call call = Calls.named(name);
        for (int[] a : bad) {
            Check.due(call.told(a), call.act().of(States.busy(), a), OUTSIDE);
            Check.due(call.told(a) + " without MOUNT", call.act().of(new HeldOnCross(), a), OUTSIDE);
            Check.due(call.told(a) + " when LOST", call.act().of(States.lost(), a), OUTSIDE);
            Check.due(call.told(a) + " above 9000", call.act().of(States.late(), a), OUTSIDE);
        }
        Check.due("no MOUNT", call.of(new HeldOnCross()), NOT);
        Check.due("LOST", call.of(States.lost()), NOT);
        Check.due("LOST above 9000", call.of(States.lateAndLost()), NOT);
        int[] most = call.with(call.bounds().length - 1, 99);
        for (int minutes : new int[] {8999, 9000, 9001, 9099}) {
            HeldOnCross x = Check.mounted("m9 9 999;");
            for (int i = 0; i < 90; i++) {
                x.minute(99);
            }
            x.minute(Math.min(minutes, 9000) - 8910);
            if (minutes > 9000) {
                x.minute(minutes - 9000);
            }
            Check.due("MINUTES", x.told(10), minutes);
            int answer = call.act().of(x, most);
            Check.holds(name + " at " + minutes + " is FULL or not, not " + answer, minutes > 9000 ? answer == FULL : answer > NOT);
            Check.due("MINUTES behind it", x.told(10), minutes > 9000 ? minutes : minutes + 99);
        }
    }

    private static void shut() {
        Doc.promise(11, "THE PLATE is SHUT (is), or not: 1 it was, 0 not. NOT: no MOUNT.");
        HeldOnCross x = Check.mounted("m9 9 99;");
        Check.due("shut(false), open", x.shut(false), 0);
        Check.due("shut(true), open", x.shut(true), 0);
        Check.due("told(14)", x.told(14), 1);
        Check.due("shut(true), SHUT", x.shut(true), 1);
        Check.due("told(14)", x.told(14), 1);
        Check.due("shut(false), SHUT", x.shut(false), 1);
        Check.due("told(14)", x.told(14), 0);
        Check.due("shut(false), open", x.shut(false), 0);
        Check.due("no MOUNT", new HeldOnCross().shut(true), NOT);
        Check.due("no MOUNT", new HeldOnCross().shut(false), NOT);
        HeldOnCross lost = States.lost();
        Check.due("LOST: it was", lost.shut(false), 1);
        Check.due("LOST: it was not", lost.shut(true), 0);
        Check.due("above 9000", States.late().shut(true), 0);
    }

    private static void plate() {
        Doc.promise(12, "A new PLATE: TAIL of the old one. NOT: no MOUNT.");
        HeldOnCross x = Check.mounted("m11 9 99;");
        Check.due("without LIGHT", x.plate(), 0);
        x.minute(1);
        Check.due("of one place", x.plate(), 0);
        x.minute(4);
        Check.due("of four", x.plate(), 6);
        Check.due("nothing gathered since", x.plate(), 0);
        Check.due("no MOUNT", new HeldOnCross().plate(), NOT);
        Check.holds("LOST", States.lost().plate() >= 0);
        Check.holds("above 9000", States.late().plate() >= 0);
    }
}
