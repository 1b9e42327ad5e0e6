/** Promises 24 to 32: see, fits, periods, look, tail, axes, write, tear, judge. */
public final class SeenTest {
    private static final int OUTSIDE = -1000000002, NOT = -1000000003, FULL = -1000000004;
    /** CLOCK 1, THE WORM of length 4, a JUMP of 30 at minute 9. */
    private static final String TEXT = "m10 7 60;w12,9,6,8;j9 129;";

    public static void main(String[] args) {
        see();
        fits();
        fitsWithoutMount();
        periods();
        look();
        tailsAndAxes();
        book();
        tear();
        Check.end("SeenTest");
    }

    private static void see() {
        HeldOnCross x = new HeldOnCross();
        Check.due("see(-1, 0)", x.see(-1, 0), OUTSIDE);
        Check.due("see(1000, 0)", x.see(1000, 0), OUTSIDE);
        Check.due("see(0, -151)", x.see(0, -151), OUTSIDE);
        Check.due("see(0, 151)", x.see(0, 151), OUTSIDE);
        Check.due("none", x.told(17), 0);
        Check.due("see(0, -150)", x.see(0, -150), 1);
        Check.due("see(999, 150)", x.see(999, 150), 2);
        for (int i = 3; i <= 10; i++) {
            Check.due("see(5, 5)", x.see(5, 5), i);
        }
        Check.due("see() when FULL", x.see(5, 5), FULL);
        Check.due("OUTSIDE is ahead of FULL", x.see(5, 151), OUTSIDE);
        Check.due("ten", x.told(17), 10);
    }

    private static void fits() {
        HeldOnCross x = Check.mounted(TEXT);
        Check.due("fits(-1, 0)", x.fits(-1, 0), OUTSIDE);
        Check.due("fits(4, 0)", x.fits(4, 0), OUTSIDE);
        Check.due("fits(0, -1)", x.fits(0, -1), OUTSIDE);
        Check.due("fits(0, 2)", x.fits(0, 2), OUTSIDE);
        dueFits(x, 3, 19, 0);
        x.see(3, 10);
        dueFits(x, 3, 1, 18);
        dueFits(x, 2, 19, 0);
        x.see(7, 10);
        dueFits(x, 3, 1, 18);
        x.see(11, 9);
        dueFits(x, 3, 0, -1);
        x.see(2, -8);
        dueFits(x, 2, 1, 0);
        x.see(0, 11);
        dueFits(x, 0, 0, -1);
        x.see(1, 5);
        dueFits(x, 1, 1, 13);
        x.see(9, 35);
        dueFits(x, 1, 1, 13);
        x.see(13, 35);
        dueFits(x, 1, 0, -1);
        x.tear();
        x.see(2, -9);
        dueFits(x, 2, 0, -1);
        x.tear();
        x.see(9, 5);
        dueFits(x, 1, 0, -1);
        dueFits(x, 0, 19, 0);
    }

    private static void dueFits(HeldOnCross x, int i, int count, int least) {
        Check.due("fits(" + i + ", 0)", x.fits(i, 0), count);
        Check.due("fits(" + i + ", 1)", x.fits(i, 1), least);
    }

    private static void fitsWithoutMount() {
        HeldOnCross x = new HeldOnCross();
        x.see(3, 4);
        dueFits(x, 0, 1, 13);
        x.see(500, 4);
        dueFits(x, 0, 1, 13);
        Check.due("fits(1, 0)", x.fits(1, 0), OUTSIDE);
        x.see(8, 3);
        dueFits(x, 0, 0, -1);
        Check.due("periods() without MOUNT", x.periods(), 1 << 7 | 1 << 8 | 1 << 9);
    }

    private static void periods() {
        HeldOnCross x = Check.mounted(TEXT);
        Check.due("nothing SEEN", x.periods(), 1022);
        x.see(0, 4);
        Check.due("one SEEN", x.periods(), 1022);
        x.see(4, 4);
        x.see(1, 1);
        x.see(2, -2);
        Check.due("4 and above", x.periods(), 1008);
        x.see(9, 31);
        Check.due("4, 6, 8: the JUMP taken off", x.periods(), 336);
        x.see(8, 5);
        Check.due("none", x.periods(), 0);
        x.tear();
        x.see(5, 11);
        Check.due("10 is above 9: none", x.periods(), 0);
        x.tear();
        x.see(5, -9);
        Check.due("-10 is below -9: none", x.periods(), 0);
        x.tear();
        x.see(5, 10);
        x.see(14, 10);
        x.see(0, -8);
        Check.due("5 and 1 are out", x.periods(), 1022 - (1 << 1) - (1 << 5) - (1 << 2) - (1 << 7));
    }

    private static void look() {
        HeldOnCross x = Check.mounted(TEXT);
        Check.due("look()", x.look(), 0);
        x.see(400, 1);
        Check.due("place 0 SEEN", x.look(), 1);
        x.see(2, 1);
        Check.due("place 2 SEEN", x.look(), 1);
        x.minute(2);
        Check.due("from minute 2 on", x.look(), 3);
        x.see(3, 1);
        Check.due("round it comes", x.look(), 5);
        x.see(1, 1);
        Check.due("all SEEN", x.look(), -1);
        x.tear();
        Check.due("from minute 2 on, nothing SEEN", x.look(), 2);
        x.press(30, 30);
        x.press(99, 99);
        x.minute(1);
        Check.due("LOST", x.told(13), 1);
        Check.due("when LOST, too", x.look(), 3);
        Check.due("no MOUNT", new HeldOnCross().look(), NOT);
    }

    private static void tailsAndAxes() {
        HeldOnCross x = new HeldOnCross();
        Check.due("nothing SEEN", x.axes(), 524287);
        Check.due("tail(-1, 1, 0)", x.tail(-1, 1, 0), OUTSIDE);
        Check.due("tail(0, 1000, 0)", x.tail(0, 1000, 0), OUTSIDE);
        Check.due("tail(5, 5, 0)", x.tail(5, 5, 0), OUTSIDE);
        Check.due("tail(6, 5, 0)", x.tail(6, 5, 0), OUTSIDE);
        Check.due("tail(0, 1, -9001)", x.tail(0, 1, -9001), OUTSIDE);
        Check.due("tail(0, 1, 9001)", x.tail(0, 1, 9001), OUTSIDE);
        Check.due("none", x.told(18), 0);
        Check.due("tail(0, 999, 8991)", x.tail(0, 999, 8991), 1);
        Check.due("9", x.axes(), 1 << 18);
        Check.due("tail(998, 999, 9)", x.tail(998, 999, 9), 2);
        Check.due("9 still", x.axes(), 1 << 18);
        Check.due("tail(10, 12, 9)", x.tail(10, 12, 9), 3);
        Check.due("none by half", x.axes(), 0);
        Check.due("tail(0, 1, 9000)", x.tail(0, 1, 9000), 4);
        Check.due("tail(0, 1, -9000)", x.tail(0, 1, -9000), 5);
        Check.due("tail(0, 1, 0)", x.tail(0, 1, 0), 6);
        Check.due("tail() when FULL", x.tail(0, 1, 0), FULL);
        Check.due("OUTSIDE is ahead of FULL", x.tail(1, 1, 0), OUTSIDE);
        Check.due("six", x.told(18), 6);
        x.tear();
        x.tail(3, 7, -36);
        Check.due("-9", x.axes(), 1);
        x.tear();
        x.tail(3, 7, 0);
        Check.due("0", x.axes(), 512);
        x.tear();
        x.tail(3, 7, 40);
        Check.due("10 is none", x.axes(), 0);
    }

    private static void book() {
        HeldOnCross x = Check.mounted(TEXT);
        Check.due("an empty BOOK", x.judge(), -1);
        Check.due("write(0, 0)", x.write(0, 0), 1);
        Check.due("as told", x.judge(), -1);
        Check.due("write(0, -2)", x.write(0, -2), 2);
        Check.due("NORTH is otherwise", x.judge(), 1);
        x.minute(1);
        Check.due("now", x.judge(), 0);
        x.tear();
        Check.due("an empty BOOK, not at 0, 0", x.judge(), -1);
        x.write(4, -2);
        x.write(4, -2);
        x.write(5, -2);
        Check.due("EAST is otherwise", x.judge(), 2);
        x.undo();
        Check.due("as it is now", x.judge(), 0);
        Check.due("write(-2001, 0)", x.write(-2001, 0), OUTSIDE);
        Check.due("write(2001, 0)", x.write(2001, 0), OUTSIDE);
        Check.due("write(0, -2001)", x.write(0, -2001), OUTSIDE);
        Check.due("write(0, 2001)", x.write(0, 2001), OUTSIDE);
        Check.due("three", x.told(19), 3);
        Check.due("write(-2000, 2000)", x.write(-2000, 2000), 4);
        for (int i = 5; i <= 15; i++) {
            Check.due("write(2000, -2000)", x.write(2000, -2000), i);
        }
        Check.due("write() when FULL", x.write(0, 0), FULL);
        Check.due("OUTSIDE is ahead of FULL", x.write(0, 2001), OUTSIDE);
        Check.due("fifteen", x.told(19), 15);
        HeldOnCross y = new HeldOnCross();
        Check.due("without MOUNT", y.write(0, 0), 1);
        Check.due("at 0, 0", y.judge(), -1);
    }

    private static void tear() {
        HeldOnCross x = Check.mounted(TEXT);
        Check.due("nothing", x.tear(), 0);
        x.see(1, 1);
        x.see(1, 1);
        x.see(1, 1);
        x.tail(0, 1, 1);
        x.tail(0, 1, 1);
        x.write(1, 1);
        x.minute(2);
        Check.due("all three", x.tear(), 6);
        Check.due("nothing SEEN", x.told(17), 0);
        Check.due("no TAILS", x.told(18), 0);
        Check.due("no BOOK", x.told(19), 0);
        Check.due("nothing again", x.tear(), 0);
        Check.due("what was done stays", x.told(10), 2);
        Check.due("see() from the first on", x.see(1, 1), 1);
    }
}
