import java.util.Arrays;
import java.util.List;

/** Section 3 of "Terms" as far as promises 13, 14 and 33 to 35 go: dances, what is undone, images. */
final class DrawSentences {
    private static final int UNKNOWN = -1000000001, OUTSIDE = -1000000002, NOT = -1000000003;
    private static final long TWO_TO_31 = 1L << 31;

    private DrawSentences() {
    }

    static void all() {
        byDraws();
        dances();
        undone();
        undoneByEach();
        undoneIsAllOfSectionTwo();
        undoneIsThePlate();
        images();
        drift();
        undo();
        seed();
        keep();
        goBack();
    }

    private static long next(long seed) {
        return (seed * 1103515245L + 12345) % TWO_TO_31;
    }

    private static void byDraws() {
        Doc.terms("BY DRAWS: THE SEED (0 at first: each DRAW it becomes it times 1103515245 and 12345, left over by 2 to the 31; "
            + "the DRAW of n is it / 65536, left over by n): n MINUTES, ahead of each (of BUTTONS that wait, too) it dances: "
            + "EAST by a DRAW of 5 less 2, NORTH by a DRAW of 5 less 2.");
        Check.due("0 at first", new HeldOnCross().seed(1), 0);
        // by 0: 12345, then 1406932606; by the greatest: 1043980748, then 288979989
        dueDance(0, -2, 1, 1406932606);
        dueDance(Integer.MAX_VALUE, 2, 2, 288979989);
        for (int v : new int[] {1, 65535, 65536, 1 << 30, Integer.MAX_VALUE - 1, 77}) {
            long first = next(v);
            long second = next(first);
            dueDance(v, (int) (first / 65536 % 5 - 2), (int) (second / 65536 % 5 - 2), (int) second);
        }
    }

    private static void dueDance(int seed, int east, int north, int behind) {
        HeldOnCross x = Check.mounted("m9 9 99;");
        x.seed(seed);
        Check.due("drift(1) by " + seed, x.drift(1), 10000 + east);
        Check.duePlace("by " + seed, x, east, north);
        Check.due("THE SEED behind " + seed, x.seed(0), behind);
    }

    private static void dances() {
        HeldOnCross x = Check.mounted("m10 8 999;w9,10;j3 119;b3;");
        long seed = 0;
        int east = 0;
        int north = 0;
        int[] least = {9, 9};
        int[] most = {-9, -9};
        for (int t = 0; t < 60; t++) {
            seed = next(seed);
            int byEast = (int) (seed / 65536 % 5) - 2;
            seed = next(seed);
            int byNorth = (int) (seed / 65536 % 5) - 2;
            least = new int[] {Math.min(least[0], byEast), Math.min(least[1], byNorth)};
            most = new int[] {Math.max(most[0], byEast), Math.max(most[1], byNorth)};
            if (t % 7 == 0) {
                x.press(2, -1);
            }
            east += byEast + 1 + t % 2 + (t == 3 ? 20 : 0) + (t % 7 == 0 ? 6 : 0);
            north += byNorth - 1 - (t % 7 == 0 ? 3 : 0);
            Check.due("drift(1), minute " + t, x.drift(1), 10000 + east);
            Check.duePlace("minute " + t, x, east, north);
        }
        Check.due("the least dances are -2", least[0] * 10 + least[1], -22);
        Check.due("the greatest are 2", most[0] * 10 + most[1], 22);
        // one that dances beyond L, but drifts back at once, is not LOST
        HeldOnCross back = Check.mounted("m11 9 2;");
        back.drift(1);
        Check.dueNight("-2 and 2, NORTH 1", back, 1, 0, 1, 0, 0, 1, 0);
        HeldOnCross lost = Check.mounted("m9 9 1;");
        Check.due("drift(99)", lost.drift(99), 9998);
        Check.dueNight("LOST by the first dance", lost, 1, -2, 1, 1, 0, 0, 0);
        Check.due("no DRAW more", lost.seed(0), 1406932606);
    }

    private static void undone() {
        Doc.terms("UNDONE: the latest of minute(), rule(), press(), shut(), plate(), drift() that was not refused (20 at most are kept, "
            + "the oldest are lost): all of section 2 is as ahead of it; THE SEED stays.");
        for (int done : new int[] {1, 19, 20, 21, 22, 40, 41, 45}) {
            HeldOnCross x = Check.mounted("m9 9 99;");
            for (int i = 1; i <= done; i++) {
                x.press(i, -i);
                Check.due("how many can be", x.told(20), Math.min(i, 20));
            }
            for (int i = done; i > Math.max(done - 20, 0); i--) {
                Check.due("what waits", x.where(1, 0), 10000 + i);
                Check.due("undo()", x.undo(), Math.min(done, 20) - (done - i) - 1);
            }
            Check.due("what waits at last", x.where(1, 0), 10000 + Math.max(done - 20, 0));
            Check.due("none more", x.undo(), NOT);
            Check.due("what waits still", x.where(1, 1), 10000 - Math.max(done - 20, 0));
            x.press(50, 0);
            Check.due("one again", x.told(20), 1);
            Check.due("and undone", x.undo(), 0);
        }
    }

    private static void undoneByEach() {
        String[] names = {"minute", "rule", "press", "shut", "open", "plate", "drift"};
        for (String name : names) {
            for (HeldOnCross x : new HeldOnCross[] {States.busyButText(), Check.mounted("m18 18 999;w18;j0 198;")}) {
                int can = x.told(20);
                int[] ahead = section2(x);
                x.seed(5);
                Calls.named(name).of(x);
                int seed = name.equals("drift") ? (int) next(next(5)) : 5;
                Check.due(name + " can be undone", x.told(20), can + 1);
                Check.due("undo() of " + name, x.undo(), can);
                Check.holds("as ahead of " + name, Arrays.equals(section2(x), ahead));
                Check.due("THE SEED stays", x.seed(0), seed);
            }
        }
        HeldOnCross x = Check.mounted("m9 9 99;");
        for (Calls.Call call : Calls.ALL) {
            if (!List.of(names).contains(call.name()) && !call.name().equals("mount")) {
                call.of(x);
                Check.due(call.name() + " is none of them", x.told(20), 0);
            }
        }
    }

    private static int[] section2(HeldOnCross x) {
        int[] all = new int[9];
        for (int what = 10; what <= 16; what++) {
            all[what - 10] = x.told(what);
        }
        all[7] = x.where(1, 0);
        all[8] = x.where(1, 1);
        return all;
    }

    private static void undoneIsAllOfSectionTwo() {
        HeldOnCross x = Check.mounted("m11 8 20;");
        x.minute(3);
        x.press(2, 3);
        x.shut(true);
        x.minute(9);
        Check.dueNight("LOST", x, 10, 22, -7, 1, 1, 3, 4);
        x.plate();
        Check.dueNight("a new PLATE", x, 10, 0, 0, 0, 0, 0, 0);
        x.undo();
        Check.dueNight("LOST again", x, 10, 22, -7, 1, 1, 3, 4);
        Check.due("minute(1)", x.minute(1), NOT);
        x.undo();
        Check.dueNight("not LOST", x, 3, 6, -3, 0, 1, 3, 4);
        Check.due("they wait again", x.where(1, 0), 10010);
        x.undo();
        Check.dueNight("not SHUT", x, 3, 6, -3, 0, 0, 3, 4);
        x.undo();
        Check.due("nothing waits", x.where(1, 0), 10008);
        x.minute(1);
        Check.dueNight("the TAIL goes on", x, 4, 8, -4, 0, 0, 4, 6);
        x.see(1, 1);
        x.tail(1, 2, 1);
        x.write(1, 1);
        x.feed('m');
        x.undo();
        Check.due("of what is no part of section 2 nothing", x.told(17) + x.told(18) + x.told(19) + x.told(9), 4);
    }

    /** Each end of what THE PLATE gathered comes back: what is gathered behind an undo() widens the TAIL as it was. */
    private static void undoneIsThePlate() {
        for (int[] way : new int[][] {{1, 0}, {-1, 0}, {0, 1}, {0, -1}}) {
            for (int first = -30; first <= 30; first += 60) {
                HeldOnCross x = Check.mounted("m9 9 999;");
                x.press(first, first);
                x.minute(1);
                x.press(9 * way[0], 9 * way[1]);
                x.keep(0);
                x.minute(1);
                Check.due("9 more", x.told(16), 9);
                x.undo();
                Check.due("undone", x.told(16), 0);
                x.press(3 * way[0], 3 * way[1]);
                x.minute(1);
                Check.due("3 more", x.told(16), 3);
                x.plate();
                x.minute(1);
                x.goBack(0);
                Check.due("by an IMAGE", x.told(16), 0);
                x.press(-2 * way[0], -2 * way[1]);
                x.minute(1);
                Check.due("2 the other way", x.told(16), 2);
            }
        }
    }

    private static void images() {
        Doc.terms("IMAGES 0, 1 keep all of section 2, THE SEED.");
        for (int i = 0; i <= 1; i++) {
            HeldOnCross x = Check.mounted("m11 8 20;");
            x.minute(3);
            x.press(2, 3);
            x.shut(true);
            x.seed(4321);
            x.keep(i);
            x.minute(9);
            x.seed(1234);
            x.keep(1 - i);
            x.plate();
            x.seed(1);
            x.goBack(i);
            Check.dueNight("the first", x, 3, 6, -3, 0, 1, 3, 4);
            Check.due("what waited waits", x.where(1, 0), 10010);
            Check.due("NORTH, too", x.where(1, 1), 9999);
            Check.due("its SEED", x.seed(1), 4321);
            x.shut(false);
            x.minute(1);
            Check.dueNight("its TAIL goes on", x, 4, 10, -1, 0, 0, 4, 8);
            x.goBack(1 - i);
            Check.dueNight("the second", x, 10, 22, -7, 1, 1, 3, 4);
            Check.due("its SEED", x.seed(1), 1234);
            Check.due("LOST", x.minute(1), NOT);
            x.goBack(i);
            Check.dueNight("the first, once more", x, 3, 6, -3, 0, 1, 3, 4);
            Check.due("its SEED, once more", x.seed(1), 4321);
        }
    }

    private static void drift() {
        Doc.promise(13, "n MINUTES BY DRAWS (1 .. 99), unguided: EAST, and 10000.");
        HeldOnCross one = Check.mounted("m9 9 999;");
        HeldOnCross all = Check.mounted("m9 9 999;");
        for (int i = 0; i < 99; i++) {
            one.drift(1);
        }
        Check.due("99 at once", all.drift(99), one.told(11));
        Check.due("NORTH", all.told(12), one.told(12));
        Check.due("MINUTES", all.told(10), 99);
        Check.due("THE SEED", all.seed(0), one.seed(0));
        Doc.promise(13, "OUTSIDE, NOT: no MOUNT, it is LOST; FULL: MINUTES are above 9000 as it is called (n may pass that).");
        MinuteSentences.dueRefusals("drift", new int[][] {{0}, {-1}, {100}, {Integer.MIN_VALUE}, {Integer.MAX_VALUE}});
        HeldOnCross refused = Check.mounted("m9 9 9;");
        refused.drift(100);
        Check.due("no DRAW by what is refused", refused.seed(0), 0);
    }

    private static void undo() {
        Doc.promise(14, "The latest is undone: how many more can be. NOT: none.");
        Check.due("no MOUNT", new HeldOnCross().undo(), NOT);
        HeldOnCross x = Check.mounted("m10 9 99;");
        Check.due("nothing done", x.undo(), NOT);
        x.minute(1);
        x.minute(2);
        x.minute(100);
        x.press(100, 0);
        x.rule(0, 21, 1);
        x.drift(0);
        Check.due("what is refused is none", x.undo(), 1);
        Check.duePlace("ahead of the second", x, 1, 0);
        Check.due("the last", x.undo(), 0);
        Check.duePlace("ahead of the first", x, 0, 0);
        Check.due("none more", x.undo(), NOT);
        x.minute(5);
        Check.feedAll(x, "m10 9 99;");
        x.mount();
        Check.due("behind a mount()", x.undo(), NOT);
        HeldOnCross late = States.late();
        late.undo();
        Check.due("above 9000", late.undo(), 18);
        Check.due("MINUTES", late.told(10), 8910);
    }

    private static void seed() {
        Doc.promise(33, "THE SEED becomes v (0 .. 2147483647): what it was. OUTSIDE.");
        HeldOnCross x = new HeldOnCross();
        Check.due("the first", x.seed(Integer.MAX_VALUE), 0);
        Check.due("the greatest", x.seed(0), Integer.MAX_VALUE);
        Check.due("the least", x.seed(5), 0);
        Check.due("seed(-1)", x.seed(-1), OUTSIDE);
        Check.due("seed(least int)", x.seed(Integer.MIN_VALUE), OUTSIDE);
        Check.due("it stays", x.seed(5), 5);
        Check.feedAll(x, "m9 9 99;");
        x.mount();
        Check.due("mount() leaves it", x.seed(5), 5);
    }

    private static void keep() {
        Doc.promise(34, "IMAGE i becomes what is so (nothing can be undone then): 1. UNKNOWN.");
        HeldOnCross x = Check.mounted("m10 9 99;");
        x.minute(1);
        for (int i : new int[] {-1, 2, Integer.MIN_VALUE, Integer.MAX_VALUE}) {
            Check.due("keep(" + i + ")", x.keep(i), UNKNOWN);
            Check.due("what is refused leaves it", x.told(20), 1);
        }
        Check.due("keep(1)", x.keep(1), 1);
        Check.due("nothing can be undone", x.told(20), 0);
        Check.due("undo()", x.undo(), NOT);
        Check.due("keep(0)", x.keep(0), 1);
        x.minute(4);
        Check.due("keep(0) anew", x.keep(0), 1);
        x.minute(4);
        x.goBack(0);
        Check.duePlace("the later one", x, 5, 0);
        x.goBack(1);
        Check.duePlace("the other is as it was", x, 1, 0);
        HeldOnCross without = new HeldOnCross();
        without.seed(7);
        Check.due("no MOUNT", without.keep(0), 1);
        without.seed(8);
        Check.due("goBack(0)", without.goBack(0), 1);
        Check.due("its SEED", without.seed(0), 7);
    }

    private static void goBack() {
        Doc.promise(35, "What is so becomes IMAGE i (nothing can be undone then): 1. UNKNOWN, NOT: it was not kept.");
        HeldOnCross x = Check.mounted("m10 9 99;");
        x.minute(1);
        for (int i : new int[] {-1, 2, Integer.MIN_VALUE, Integer.MAX_VALUE}) {
            Check.due("goBack(" + i + ")", x.goBack(i), UNKNOWN);
        }
        Check.due("goBack(0)", x.goBack(0), NOT);
        Check.due("goBack(1)", x.goBack(1), NOT);
        Check.due("what is refused leaves it", x.told(20), 1);
        x.keep(1);
        Check.due("goBack(0), 1 was kept", x.goBack(0), NOT);
        x.minute(3);
        x.minute(3);
        Check.due("goBack(1)", x.goBack(1), 1);
        Check.due("nothing can be undone", x.told(20), 0);
        Check.due("undo()", x.undo(), NOT);
        Check.duePlace("as kept", x, 1, 0);
        x.minute(2);
        Check.due("goBack(1) again", x.goBack(1), 1);
        Check.duePlace("as kept", x, 1, 0);
        Check.feedAll(x, "x");
        x.mount();
        Check.due("behind a FAULT", x.goBack(1), 1);
        Check.feedAll(x, "m10 9 99;");
        x.mount();
        Check.due("gone by a mount()", x.goBack(1), NOT);
    }
}
