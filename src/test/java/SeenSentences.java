/** Section 3 of "Terms" as far as promises 24 to 32 go: what was seen, the worm that fits, axes, THE BOOK. */
final class SeenSentences {
    private static final int OUTSIDE = -1000000002, NOT = -1000000003, FULL = -1000000004;
    private static final int NONE = -1;
    /** CLOCK 1, THE WORM of length 4, a JUMP of 30 at minute 9. */
    private static final String TEXT = "m10 7 60;w12,9,6,8;j9 129;";

    private SeenSentences() {
    }

    static void all() {
        seen();
        fits();
        fitsByClockAndJump();
        periods();
        periodsComeRound();
        look();
        axes();
        book();
        notes();
        asks();
    }

    private static void seen() {
        Doc.terms("SEEN (10 at most): at minute t (0 .. 999) it moved EAST by d (-150 .. 150), unguided.");
        HeldOnCross x = new HeldOnCross();
        for (int[] one : new int[][] {{-1, 0}, {1000, 0}, {0, -151}, {0, 151}}) {
            Check.due("see(" + one[0] + ", " + one[1] + ")", x.see(one[0], one[1]), OUTSIDE);
        }
        Check.due("nothing SEEN", x.told(17), 0);
        int[][] edges = {{0, -150}, {0, 150}, {999, -150}, {999, 150}};
        for (int i = 0; i < edges.length; i++) {
            Check.due("see(" + edges[i][0] + ", " + edges[i][1] + ")", x.see(edges[i][0], edges[i][1]), i + 1);
        }
        for (int i = 5; i <= 10; i++) {
            Check.due("the same again counts", x.see(0, 0), i);
        }
        Check.due("the eleventh", x.see(0, 0), FULL);
        Check.due("ten", x.told(17), 10);
    }

    private static void fits() {
        Doc.terms("THE WORM THAT FITS at a place of it (0 to its length less 1): numbers -9 to 9 (in place of its own) "
            + "by which all that was SEEN at minutes of that place is so, CLOCK, JUMP as told: how many; the least, and 9; NONE.");
        HeldOnCross x = Check.mounted(TEXT);
        dueFits(x, 0, 19, 0);
        dueFits(x, 3, 19, 0);
        Check.due("the last place", x.fits(3, 0), 19);
        Check.due("none behind it", x.fits(4, 0), OUTSIDE);
        Check.due("none ahead of the first", x.fits(-1, 0), OUTSIDE);
        // CLOCK is 1: what moved by v and 1 had v
        for (int v = -11; v <= 11; v++) {
            x.tear();
            x.see(6, v + 1);
            boolean isNumber = v >= -9 && v <= 9;
            dueFits(x, 2, isNumber ? 1 : 0, isNumber ? v + 9 : NONE);
            dueFits(x, 1, 19, 0);
            dueFits(x, 3, 19, 0);
        }
        x.tear();
        x.see(2, 5);
        x.see(998, 5);
        dueFits(x, 2, 1, 13);
        x.see(6, 6);
        dueFits(x, 2, 0, NONE);
        dueFits(x, 0, 19, 0);
        // the tenth that was SEEN counts as the first
        x.tear();
        for (int i = 0; i < 9; i++) {
            x.see(4 * i, 1);
        }
        dueFits(x, 0, 1, 9);
        x.see(996, 2);
        dueFits(x, 0, 0, NONE);
    }

    private static void fitsByClockAndJump() {
        HeldOnCross x = Check.mounted(TEXT);
        x.see(9, 31 + 4);
        dueFits(x, 1, 1, 13);
        x.see(13, 1 + 4);
        dueFits(x, 1, 1, 13);
        x.see(5, 31 + 4);
        dueFits(x, 1, 0, NONE);
        HeldOnCross most = Check.mounted("m18 9 60;j0 198;");
        most.see(0, 9 + 9 + 99);
        dueFits(most, 0, 1, 18);
        HeldOnCross least = Check.mounted("m0 9 60;j999 0;");
        least.see(999, -9 - 9 - 99);
        dueFits(least, 0, 1, 0);
        HeldOnCross without = new HeldOnCross();
        dueFits(without, 0, 19, 0);
        without.see(999, 9);
        dueFits(without, 0, 1, 18);
        Check.due("a WORM of one without MOUNT", without.fits(1, 0), OUTSIDE);
    }

    private static void dueFits(HeldOnCross x, int i, int count, int least) {
        Check.due("fits(" + i + ", 0)", x.fits(i, 0), count);
        Check.due("fits(" + i + ", 1)", x.fits(i, 1), least);
    }

    private static void periods() {
        Doc.terms("PERIODS: lengths 1 to 9 (a SET, bit k: k) by which what was SEEN can be so at all with some numbers -9 to 9 at each place.");
        HeldOnCross x = Check.mounted(TEXT);
        Check.due("nothing SEEN: 1 to 9", x.periods(), 1022);
        for (int v : new int[] {-10, -9, 9, 10}) {
            x.tear();
            x.see(7, v + 1);
            Check.due(v + " alone", x.periods(), Math.abs(v) > 9 ? 0 : 1022);
        }
        for (int v : new int[] {-10, -9, 9, 10}) {
            x.tear();
            x.see(9, v + 31);
            Check.due(v + " with the JUMP", x.periods(), Math.abs(v) > 9 ? 0 : 1022);
        }
        HeldOnCross y = new HeldOnCross();
        y.see(3, 9);
        Check.due("no MOUNT: 9", y.periods(), 1022);
        y.see(4, 10);
        Check.due("no MOUNT: 10", y.periods(), 0);
    }

    /** Two that moved otherwise cannot be of one place: the lengths that part their minutes are out. */
    private static void periodsComeRound() {
        for (int apart = 1; apart <= 20; apart++) {
            for (int from : new int[] {0, 1, 500, 979}) {
                HeldOnCross x = Check.mounted("m9 9 99;");
                x.see(from, 3);
                x.see(from + apart, 4);
                int due = 0;
                for (int length = 1; length <= 9; length++) {
                    due += apart % length == 0 ? 0 : 1 << length;
                }
                Check.due("periods() of " + from + " and " + apart + " more", x.periods(), due);
                x.tear();
                x.see(from, 3);
                x.see(from + apart, 3);
                Check.due("alike", x.periods(), 1022);
            }
        }
    }

    private static void look() {
        Doc.terms("LOOK: the first minute of the next 99 (from this one on) whose place of THE WORM has not been SEEN; NONE.");
        HeldOnCross x = Check.mounted("m9 9 999;w9,9,9,9,9,9,9,9,9;");
        for (int t = 0; t < 9; t++) {
            Check.due("this one, or the first behind", x.look(), t);
            x.see(t + 9, 0);
        }
        Check.due("all SEEN", x.look(), NONE);
        x.tear();
        for (int t = 0; t < 8; t++) {
            x.see(t, 99);
        }
        Check.due("place 8, whatever it moved by", x.look(), 8);
        x.minute(8);
        Check.due("it is this minute", x.look(), 8);
        x.minute(1);
        Check.due("it comes round", x.look(), 17);
        for (int i = 0; i < 91; i++) {
            x.minute(i == 0 ? 90 : 99);
        }
        // 9009 is 1001 times 9
        Check.due("above 9000", x.look(), 9009 + 8);
        HeldOnCross one = Check.mounted("m9 9 99;");
        Check.due("a WORM of one", one.look(), 0);
        one.see(500, 0);
        Check.due("SEEN", one.look(), NONE);
    }

    private static void axes() {
        Doc.terms("AXES: numbers -9 to 9 (a SET, bit k: k less 9) by which NORTH moves as told in all TAILS SEEN (6 at most: "
            + "from minute a to minute b, 0 .. 999, a below b, unguided, by m, -9000 .. 9000).");
        HeldOnCross x = Check.mounted("m9 15 99;");
        Check.due("none SEEN: all 19, whatever AXIS is", x.axes(), 524287);
        for (int v = -10; v <= 10; v++) {
            for (int[] ends : new int[][] {{0, 1}, {998, 999}, {0, 2}, {37, 48}, {0, 900}}) {
                x.tear();
                Check.due("tail()", x.tail(ends[0], ends[1], v * (ends[1] - ends[0])), 1);
                Check.due("axes() by " + v, x.axes(), Math.abs(v) > 9 ? 0 : 1 << (v + 9));
            }
        }
        x.tear();
        x.tail(0, 999, 8991);
        Check.due("999 minutes by 9", x.axes(), 1 << 18);
        x.tail(0, 999, -8991);
        Check.due("nor by -9", x.axes(), 0);
        x.tear();
        x.tail(0, 2, 3);
        Check.due("by one and a half", x.axes(), 0);
        x.tear();
        x.tail(0, 999, 9000);
        Check.due("9 minutes are not enough", x.axes(), 0);
        x.tear();
        for (int i = 1; i <= 5; i++) {
            Check.due("tail(" + i + ")", x.tail(i, i + i, 4 * i), i);
        }
        Check.due("five by 4", x.axes(), 1 << 13);
        Check.due("the sixth", x.tail(5, 6, 3), 6);
        Check.due("counts, too", x.axes(), 0);
        Check.due("a seventh", x.tail(5, 6, 3), FULL);
        Check.due("six", x.told(18), 6);
        HeldOnCross y = new HeldOnCross();
        for (int[] bad : new int[][] {{-1, 1, 0}, {0, 1000, 0}, {5, 5, 0}, {0, 0, 0}, {999, 999, 0}, {6, 5, 0}, {0, 1, -9001}, {0, 1, 9001}}) {
            Check.due("tail(" + bad[0] + ", " + bad[1] + ", " + bad[2] + ")", y.tail(bad[0], bad[1], bad[2]), OUTSIDE);
        }
        Check.due("none", y.told(18), 0);
        Check.due("tail(0, 1, -9000)", y.tail(0, 1, -9000), 1);
        Check.due("tail(998, 999, 9000)", y.tail(998, 999, 9000), 2);
    }

    private static void book() {
        Doc.terms("THE BOOK (15 at most) tells EAST and NORTH now: WRONG: the first that is otherwise; NONE.");
        HeldOnCross x = Check.mounted("m9 9 999;");
        x.press(3, -4);
        x.minute(1);
        Check.due("empty", x.judge(), NONE);
        for (int i = 0; i < 14; i++) {
            x.write(3, -4);
            Check.due("none is otherwise", x.judge(), NONE);
        }
        Check.due("the last", x.write(3, -5), 15);
        Check.due("NORTH is otherwise", x.judge(), 14);
        Check.due("no sixteenth", x.write(0, 0), FULL);
        Check.due("fifteen", x.told(19), 15);
        x.press(0, -1);
        Check.due("not yet", x.judge(), 14);
        x.minute(1);
        Check.due("now: the first", x.judge(), 0);
        x.undo();
        Check.due("as it was", x.judge(), 14);
        x.tear();
        x.write(2, -4);
        Check.due("EAST is otherwise", x.judge(), 0);
        HeldOnCross y = new HeldOnCross();
        for (int[] bad : new int[][] {{-2001, 0}, {2001, 0}, {0, -2001}, {0, 2001}}) {
            Check.due("write(" + bad[0] + ", " + bad[1] + ")", y.write(bad[0], bad[1]), OUTSIDE);
        }
        Check.due("none", y.told(19), 0);
        int[][] edges = {{0, 0}, {2000, 0}, {-2000, 0}, {0, 2000}, {0, -2000}};
        for (int i = 0; i < edges.length; i++) {
            Check.due("write(" + edges[i][0] + ", " + edges[i][1] + ")", y.write(edges[i][0], edges[i][1]), i + 1);
        }
        Check.due("0, 0 without MOUNT", y.judge(), 1);
        farthestInTheBook(-1);
        farthestInTheBook(1);
    }

    /** 1999 is farther than 999 can be by BUTTONS of 9 and all that drifts. */
    private static void farthestInTheBook(int way) {
        HeldOnCross x = Check.mounted("m9 9 999;b9;");
        x.press(99 * way, 0);
        x.minute(1);
        x.press(12 * way, 0);
        x.minute(1);
        x.press(99 * way, 99 * way);
        x.minute(1);
        x.write(1890 * way, 891 * way);
        Check.due("of one that is LOST, too", x.judge(), NONE);
        x.write(-1890 * way, 891 * way);
        Check.due("the other way", x.judge(), 1);
    }

    private static void notes() {
        Doc.promise(24, "SEEN: how much. OUTSIDE, FULL (10).");
        HeldOnCross x = new HeldOnCross();
        for (int i = 1; i <= 10; i++) {
            Check.due("see()", x.see(i, i), i);
        }
        Check.due("FULL", x.see(1, 1), FULL);
        Check.due("OUTSIDE and FULL", x.see(1000, 1), OUTSIDE);
        Check.due("OUTSIDE and FULL", x.see(1, 151), OUTSIDE);
        Doc.promise(28, "A TAIL SEEN: how many. OUTSIDE, FULL (6).");
        for (int i = 1; i <= 6; i++) {
            Check.due("tail()", x.tail(i, i + 1, i), i);
        }
        Check.due("FULL", x.tail(1, 2, 1), FULL);
        Check.due("OUTSIDE and FULL", x.tail(1, 1, 1), OUTSIDE);
        Check.due("OUTSIDE and FULL", x.tail(1, 2, 9001), OUTSIDE);
        Doc.promise(30, "An entry behind THE BOOK (-2000 .. 2000): how many. OUTSIDE, FULL (15).");
        for (int i = 1; i <= 15; i++) {
            Check.due("write()", x.write(i, i), i);
        }
        Check.due("FULL", x.write(1, 1), FULL);
        Check.due("OUTSIDE and FULL", x.write(2001, 1), OUTSIDE);
        Check.due("OUTSIDE and FULL", x.write(1, -2001), OUTSIDE);
        Doc.promise(31, "Nothing SEEN, no TAILS, no BOOK: how much all three had.");
        Check.due("10 and 6 and 15", x.tear(), 31);
        for (int what = 17; what <= 19; what++) {
            Check.due("told(" + what + ")", x.told(what), 0);
        }
        Check.due("nothing", x.tear(), 0);
        Check.due("periods()", x.periods(), 1022);
        Check.due("axes()", x.axes(), 524287);
        Check.due("judge()", x.judge(), NONE);
        Check.due("room again", x.see(1, 1) + x.tail(1, 2, 1) + x.write(1, 1), 3);
        Check.due("one of each", x.tear(), 3);
        x.write(1, 1);
        Check.due("one of one", x.tear(), 1);
    }

    private static void asks() {
        Doc.promise(25, "THE WORM THAT FITS: what = 0 how many, 1 the least, and 9; NONE. OUTSIDE (i, what).");
        HeldOnCross x = Check.mounted(TEXT);
        x.see(1, 99);
        Check.due("none: how many", x.fits(1, 0), 0);
        Check.due("none: the least", x.fits(1, 1), NONE);
        for (int[] bad : new int[][] {{-1, 0}, {4, 0}, {0, -1}, {0, 2}, {4, 2}, {Integer.MIN_VALUE, 0}, {0, Integer.MAX_VALUE}}) {
            Check.due("fits(" + bad[0] + ", " + bad[1] + ")", x.fits(bad[0], bad[1]), OUTSIDE);
        }
        HeldOnCross nine = Check.mounted("m9 9 99;w9,9,9,9,9,9,9,9,9;");
        Check.due("the ninth", nine.fits(8, 0), 19);
        Check.due("no tenth", nine.fits(9, 0), OUTSIDE);
        Doc.promise(26, "PERIODS.");
        Check.due("no MOUNT", new HeldOnCross().periods(), 1022);
        Check.due("LOST", States.lost().periods() & 1, 0);
        Doc.promise(27, "LOOK; NONE. NOT: no MOUNT.");
        Check.due("no MOUNT", new HeldOnCross().look(), NOT);
        HeldOnCross seenWithout = new HeldOnCross();
        seenWithout.see(0, 0);
        Check.due("no MOUNT, though SEEN", seenWithout.look(), NOT);
        Check.holds("LOST", States.lost().look() >= 0);
        Check.due("above 9000", States.late().look(), 9009);
        Doc.promise(29, "AXES.");
        Check.due("no MOUNT", new HeldOnCross().axes(), 524287);
        Doc.promise(32, "WRONG; NONE.");
        HeldOnCross y = new HeldOnCross();
        Check.due("an empty BOOK", y.judge(), NONE);
        y.write(0, 0);
        Check.due("0, 0", y.judge(), NONE);
        y.write(0, 1);
        Check.due("0, 1", y.judge(), 1);
    }
}
