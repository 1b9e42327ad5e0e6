/** Promises 1 to 7: a new object, feed, mount, fault, told, worm, star. */
public final class MountTest {
    private static final int UNKNOWN = -1000000001, OUTSIDE = -1000000002, NOT = -1000000003, FULL = -1000000004;
    /** Seven letters: what comes behind it stands from place 7 on. */
    private static final String M = "m0 0 1;";
    private static final String NINE = "1,1,1,1,1,1,1,1,1";

    public static void main(String[] args) {
        newObject();
        feed();
        textsWithoutFault();
        firstWords();
        numbers();
        clauses();
        again();
        firstFaultCounts();
        faultChangesNothing();
        mountAnew();
        emptyTextTakesTheMountAway();
        told();
        wormAndStars();
        Check.end("MountTest");
    }

    private static void newObject() {
        int[] due = {0, 9, 9, 0, 1, -1, 99, 1, 0, 0, 0, 10000, 10000, 0, 0, 0, 0, 0, 0, 0, 0};
        HeldOnCross x = new HeldOnCross();
        for (int what = 0; what < due.length; what++) {
            Check.due("new told(" + what + ")", x.told(what), due[what]);
        }
        Check.due("new fault()", x.fault(), -1);
        Check.due("new worm(0)", x.worm(0), 9);
        Check.due("new worm(1)", x.worm(1), OUTSIDE);
        Check.due("new star(0, 0)", x.star(0, 0), UNKNOWN);
        Check.due("new seed(5)", x.seed(5), 0);
        Check.due("new goBack(0)", x.goBack(0), NOT);
        Check.due("new undo()", x.undo(), NOT);
        Check.due("new fits(0, 0)", x.fits(0, 0), 19);
        Check.due("NONE", HeldOnCross.NONE, -1);
        Check.due("UNKNOWN", HeldOnCross.UNKNOWN, UNKNOWN);
        Check.due("OUTSIDE", HeldOnCross.OUTSIDE, OUTSIDE);
        Check.due("NOT", HeldOnCross.NOT, NOT);
        Check.due("FULL", HeldOnCross.FULL, FULL);
    }

    private static void feed() {
        HeldOnCross x = new HeldOnCross();
        Check.due("feed(-1)", x.feed(-1), OUTSIDE);
        Check.due("feed(256)", x.feed(256), OUTSIDE);
        Check.due("feed(least int)", x.feed(Integer.MIN_VALUE), OUTSIDE);
        Check.due("feed(greatest int)", x.feed(Integer.MAX_VALUE), OUTSIDE);
        Check.due("nothing came", x.told(9), 0);
        Check.due("feed(0)", x.feed(0), 1);
        Check.due("feed(255)", x.feed(255), 2);
        for (int i = 3; i <= 230; i++) {
            Check.due("feed " + i, x.feed(' '), i);
        }
        Check.due("feed when full", x.feed(' '), FULL);
        Check.due("OUTSIDE is ahead of FULL", x.feed(256), OUTSIDE);
        Check.due("still 230", x.told(9), 230);
        Check.due("mount() of letter 0", x.mount(), -11);
        Check.due("its text is empty then", x.told(9), 0);
        Check.due("feed again", x.feed('m'), 1);
        Check.due("mount() of m alone", x.mount(), -11);
        Check.due("its place", x.fault(), 1);
        Check.feedAll(x, "m0 0 1;" + " ".repeat(223));
        Check.due("230 letters", x.told(9), 230);
        Check.due("mount() of 230 letters", x.mount(), 0);
        Check.feedAll(x, "m0 0 1" + " ".repeat(224));
        Check.due("mount() of 230 letters, unended", x.mount(), -11);
        Check.due("its place", x.fault(), 230);
        Check.feedAll(x, M + "w1,2,3;s4 5;");
        Check.due("mount() of a longer text", x.mount(), 1);
        Check.feedAll(x, "m0 0 1");
        Check.due("what an earlier text had is not read again", x.mount(), -11);
        Check.due("its place", x.fault(), 6);
        Check.feedAll(x, "m0 0 1; ");
        Check.due("mount() of a shorter text", x.mount(), 0);
        Check.due("its WORM is one 0", x.told(4) * 100 + x.worm(0), 109);
    }

    private static void fine(String text, int stars) {
        HeldOnCross x = new HeldOnCross();
        Check.feedAll(x, text);
        Check.due("mount() of '" + text + "'", x.mount(), stars);
        Check.due("fault() of '" + text + "'", x.fault(), -1);
        Check.due("told(9) behind '" + text + "'", x.told(9), 0);
        Check.due("told(0) behind '" + text + "'", x.told(0), text.isBlank() ? 0 : 1);
    }

    private static void faulty(String text, int number, int place) {
        HeldOnCross x = new HeldOnCross();
        Check.feedAll(x, text);
        Check.due("mount() of '" + text + "'", x.mount(), -10 - number);
        Check.due("fault() of '" + text + "'", x.fault(), place);
        Check.due("told(9) behind '" + text + "'", x.told(9), 0);
        Check.due("told(0) behind '" + text + "'", x.told(0), 0);
    }

    private static void textsWithoutFault() {
        fine("", 0);
        fine(" ", 0);
        fine("     ", 0);
        fine(M, 0);
        fine("m18 18 999;", 0);
        fine("  m  18  0  1  ;  ", 0);
        fine("m000 018 001;", 0);
        fine(M + "w" + NINE + ";", 0);
        fine(M + " w 0 , 18 , 1 ; ", 0);
        fine(M + "j0 0;", 0);
        fine(M + "j999 198;", 0);
        fine(M + "s0 1;s99 9;s0 1;s0 1;s0 1;s0 1;", 6);
        fine(M + "b1;", 0);
        fine(M + "b9;s5 5;j1 1;s6 6;w3;", 2);
    }

    private static void firstWords() {
        faulty("x", 1, 0);
        faulty("M0 0 1;", 1, 0);
        faulty(";", 1, 0);
        faulty("7", 1, 0);
        faulty("7777", 1, 0);
        faulty("w1;", 1, 0);
        faulty("j1 1;", 1, 0);
        faulty("s1 1;", 1, 0);
        faulty("b1;", 1, 0);
        faulty("  b1;", 1, 2);
        faulty("\t" + M, 1, 0);
        faulty(M + ";", 1, 7);
        faulty(M + " ,", 1, 8);
        faulty(M + "1", 1, 7);
        faulty(M + "x", 1, 7);
        faulty(M + "\n", 1, 7);
    }

    private static void numbers() {
        faulty("m", 1, 1);
        faulty("m  ", 1, 3);
        faulty("m;", 1, 1);
        faulty("m-1 0 1;", 1, 1);
        faulty("m19 0 1;", 2, 1);
        faulty("m 0 19 1;", 2, 4);
        faulty("m0 0 0;", 2, 5);
        faulty("m0 0 1000;", 2, 5);
        faulty("m0000 0 1;", 2, 1);
        faulty("m0 0 0001;", 2, 5);
        faulty("m99999999999999999999999999999999 0 1;", 2, 1);
        faulty("m4294967296 0 1;", 2, 1);
        faulty("m0 0;", 1, 4);
        faulty("m0 0 1", 1, 6);
        faulty("m0 0 1  ", 1, 8);
        faulty("m0 0 1,", 1, 6);
        faulty("m0 0 1 2;", 1, 7);
        faulty("m0 0 1 2222;", 1, 7);
        faulty("m1 8 1 0;", 1, 7);
        faulty("m0 0 9 9 9;", 1, 7);
        faulty("m0,0 1;", 1, 2);
        faulty("m0 m", 1, 3);
        faulty("m19", 2, 1);
        faulty("m10760;", 2, 1);
    }

    private static void clauses() {
        faulty(M + "w", 1, 8);
        faulty(M + "w;", 1, 8);
        faulty(M + "w,1;", 1, 8);
        faulty(M + "w1,;", 1, 10);
        faulty(M + "w1,,1;", 1, 10);
        faulty(M + "w1 1;", 1, 10);
        faulty(M + "w1", 1, 9);
        faulty(M + "w1,", 1, 10);
        faulty(M + "w19;", 2, 8);
        faulty(M + "w1,19;", 2, 10);
        faulty(M + "w1,0001;", 2, 10);
        faulty(M + "w" + NINE + ",1;", 1, 25);
        faulty(M + "w" + NINE + "  ,1;", 1, 27);
        faulty(M + "w" + NINE + ",99;", 1, 25);
        faulty(M + "w" + NINE, 1, 25);
        faulty(M + "w1,1,1,1,1,1,1,1,19;", 2, 24);
        faulty(M + "j;", 1, 8);
        faulty(M + "j1;", 1, 9);
        faulty(M + "j1,1;", 1, 9);
        faulty(M + "j1000 1;", 2, 8);
        faulty(M + "j1 199;", 2, 10);
        faulty(M + "j1 1 1;", 1, 12);
        faulty(M + "s1;", 1, 9);
        faulty(M + "s100 1;", 2, 8);
        faulty(M + "s1 0;", 2, 10);
        faulty(M + "s1 10;", 2, 10);
        faulty(M + "s1 1 1;", 1, 12);
        faulty(M + "b;", 1, 8);
        faulty(M + "b0;", 2, 8);
        faulty(M + "b10;", 2, 8);
        faulty(M + "b1 1;", 1, 10);
        faulty(M + "b1", 1, 9);
    }

    private static void again() {
        faulty(M + "m", 3, 7);
        faulty(M + "  m", 3, 9);
        faulty(M + M, 3, 7);
        faulty(M + "w1;w1;", 3, 10);
        faulty(M + "j1 1;j1 1;", 3, 12);
        faulty(M + "j0 0;j", 3, 12);
        faulty(M + "b1;b1;", 3, 10);
        faulty(M + "s1 1;s1 1;s1 1;s1 1;s1 1;s1 1;s", 3, 37);
        faulty(M + "s1 1;s1 1;s1 1;s1 1;s1 1;s1 1;w1;b1;s1 1;", 3, 43);
        // a word where a number is due cannot stand there, whether it was there or not: the least counts
        faulty(M + "wm", 1, 8);
        faulty(M + "w1;ww", 3, 10);
        faulty(M + "b1;jb", 1, 11);
    }

    private static void firstFaultCounts() {
        faulty("m19 0 0;m", 2, 1);
        faulty("m0 19 x", 2, 3);
        faulty("mx 19", 1, 1);
        faulty(M + "b1;b99;", 3, 10);
        faulty(M + "s1 10;m", 2, 10);
        faulty(M + "w1,99,,", 2, 10);
        HeldOnCross x = new HeldOnCross();
        Check.feedAll(x, "m0 0 1");
        x.mount();
        Check.feedAll(x, M);
        Check.due("fault() till the next mount()", x.fault(), 6);
        Check.due("mount()", x.mount(), 0);
        Check.due("fault() of the latest mount()", x.fault(), -1);
    }

    private static void faultChangesNothing() {
        HeldOnCross x = Check.mounted("m10 7 60;w12,9,6;j9 120;s5 3;b2;");
        x.keep(1);
        x.minute(3);
        x.press(1, 2);
        x.shut(true);
        x.see(1, 1);
        x.tail(0, 1, 0);
        x.write(1, 1);
        x.seed(77);
        int[] ahead = new int[21];
        for (int what = 0; what <= 20; what++) {
            ahead[what] = x.told(what);
        }
        Check.feedAll(x, "m1 2 3;w4,5;j6 7;s8 9;b9;s99 99;");
        Check.due("mount() with a FAULT", x.mount(), -12);
        Check.due("its place", x.fault(), 29);
        for (int what = 0; what <= 20; what++) {
            Check.due("told(" + what + ") behind a FAULT", x.told(what), ahead[what]);
        }
        Check.due("worm(0) behind a FAULT", x.worm(0), 12);
        Check.due("worm(2) behind a FAULT", x.worm(2), 6);
        Check.due("star(0, 0) behind a FAULT", x.star(0, 0), 5);
        Check.due("star(0, 1) behind a FAULT", x.star(0, 1), 3);
        Check.due("undo() behind a FAULT", x.undo(), 2);
        Check.due("seed() behind a FAULT", x.seed(77), 77);
        Check.due("goBack() behind a FAULT", x.goBack(1), 1);
    }

    private static void mountAnew() {
        HeldOnCross x = Check.mounted("m10 7 60;w12,9,6;j9 120;s5 3;s6 4;b2;");
        x.keep(0);
        x.keep(1);
        x.minute(4);
        x.shut(true);
        x.press(5, 5);
        x.see(1, 1);
        x.tail(0, 1, 0);
        x.write(1, 1);
        x.seed(123);
        Check.feedAll(x, "m11 9 70;s7 5;");
        Check.due("mount() anew", x.mount(), 1);
        int[] due = {1, 11, 9, 70, 1, -1, 99, 1, 1, 0, 0, 10000, 10000, 0, 0, 0, 0, 0, 0, 0, 0};
        for (int what = 0; what < due.length; what++) {
            Check.due("told(" + what + ") of the new one", x.told(what), due[what]);
        }
        Check.due("undo() is gone", x.undo(), NOT);
        Check.due("IMAGE 0 is gone", x.goBack(0), NOT);
        Check.due("IMAGE 1 is gone", x.goBack(1), NOT);
        Check.due("THE SEED stays", x.seed(0), 123);
        Check.due("THE WORM is one 0", x.worm(0), 9);
        Check.due("no second star", x.star(1, 0), UNKNOWN);
        Check.due("no BUTTONS wait", x.minute(1), 10002);
    }

    private static void emptyTextTakesTheMountAway() {
        HeldOnCross x = Check.mounted("m10 7 60;w12,9;j9 120;s5 3;b2;");
        x.minute(7);
        Check.due("mount() of nothing", x.mount(), 0);
        int[] due = {0, 9, 9, 0, 1, -1, 99, 1, 0, 0, 0, 10000, 10000, 0, 0, 0, 0, 0, 0, 0, 0};
        for (int what = 0; what < due.length; what++) {
            Check.due("told(" + what + ") without", x.told(what), due[what]);
        }
        Check.due("worm(0) without", x.worm(0), 9);
        Check.due("minute(1) without", x.minute(1), NOT);
        Check.due("guide(1) without", x.guide(1), -1);
    }

    private static void told() {
        HeldOnCross x = Check.mounted("m3 14 250;w1,2,3,4,5;j37 11;s5 3;s9 9;b7;");
        int[] due = {1, 3, 14, 250, 5, 37, 11, 7, 2, 0};
        for (int what = 0; what < due.length; what++) {
            Check.due("told(" + what + ")", x.told(what), due[what]);
        }
        Check.due("told(-1)", x.told(-1), OUTSIDE);
        Check.due("told(21)", x.told(21), OUTSIDE);
        Check.due("told(least int)", x.told(Integer.MIN_VALUE), OUTSIDE);
        Check.due("told(greatest int)", x.told(Integer.MAX_VALUE), OUTSIDE);
        x.feed('m');
        Check.due("told(9)", x.told(9), 1);
        Check.due("a JUMP at minute 0, of size 0", Check.mounted(M + "j0 99;").told(5), 0);
    }

    private static void wormAndStars() {
        HeldOnCross x = Check.mounted(M + "w0,18,9,1,2,3,4,5,6;s5 3;s99 9;s0 1;");
        int[] worm = {0, 18, 9, 1, 2, 3, 4, 5, 6};
        for (int i = 0; i < worm.length; i++) {
            Check.due("worm(" + i + ")", x.worm(i), worm[i]);
        }
        Check.due("worm(-1)", x.worm(-1), OUTSIDE);
        Check.due("worm(9)", x.worm(9), OUTSIDE);
        Check.due("worm(least int)", x.worm(Integer.MIN_VALUE), OUTSIDE);
        int[] hairs = {5, 99, 0};
        int[] light = {3, 9, 1};
        for (int s = 0; s < 3; s++) {
            Check.due("star(" + s + ", 0)", x.star(s, 0), hairs[s]);
            Check.due("star(" + s + ", 1)", x.star(s, 1), light[s]);
        }
        Check.due("star(-1, 0)", x.star(-1, 0), UNKNOWN);
        Check.due("star(3, 0)", x.star(3, 0), UNKNOWN);
        Check.due("UNKNOWN is ahead of OUTSIDE", x.star(3, 2), UNKNOWN);
        Check.due("star(2, 2)", x.star(2, 2), OUTSIDE);
        Check.due("star(2, -1)", x.star(2, -1), OUTSIDE);
    }
}
