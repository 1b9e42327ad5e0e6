/** Promises 33 to 35: seed, keep, goBack. */
public final class DrawsTest {
    private static final int UNKNOWN = -1000000001, OUTSIDE = -1000000002, NOT = -1000000003;

    public static void main(String[] args) {
        seed();
        images();
        allOfSectionTwo();
        refusals();
        undoIsGone();
        Check.end("DrawsTest");
    }

    private static void seed() {
        HeldOnCross x = Check.mounted("m9 9 99;");
        Check.due("0 at first", x.seed(2147483647), 0);
        Check.due("seed(-1)", x.seed(-1), OUTSIDE);
        Check.due("seed(least int)", x.seed(Integer.MIN_VALUE), OUTSIDE);
        Check.due("dances 2 2, 0 1, 1 -1", x.drift(3), 10003);
        Check.due("NORTH", x.told(12), 10002);
        Check.due("what it became", x.seed(0), 1849869457);
        Check.due("seed(0)", x.seed(0), 0);
    }

    private static void images() {
        HeldOnCross x = Check.mounted("m10 9 99;");
        x.minute(1);
        x.seed(5);
        Check.due("keep(0)", x.keep(0), 1);
        x.minute(1);
        x.seed(6);
        Check.due("keep(1)", x.keep(1), 1);
        x.minute(1);
        x.seed(7);
        Check.due("goBack(0)", x.goBack(0), 1);
        Check.dueNight("IMAGE 0", x, 1, 1, 0, 0, 0, 1, 0);
        Check.due("its SEED", x.seed(8), 5);
        x.minute(9);
        Check.due("goBack(0) once more", x.goBack(0), 1);
        Check.dueNight("IMAGE 0 is as it was", x, 1, 1, 0, 0, 0, 1, 0);
        Check.due("its SEED is as it was", x.seed(8), 5);
        Check.due("goBack(1)", x.goBack(1), 1);
        Check.dueNight("IMAGE 1", x, 2, 2, 0, 0, 0, 2, 1);
        Check.due("its SEED", x.seed(8), 6);
        x.minute(5);
        Check.due("keep(0) anew", x.keep(0), 1);
        x.plate();
        x.goBack(0);
        Check.dueNight("the new IMAGE 0", x, 7, 7, 0, 0, 0, 7, 6);
        x.see(1, 1);
        x.goBack(1);
        Check.due("what was SEEN is not in it", x.told(17), 1);
    }

    private static void allOfSectionTwo() {
        HeldOnCross x = Check.mounted("m18 10 20;b2;");
        x.minute(2);
        x.press(-5, 3);
        x.shut(true);
        x.keep(0);
        x.plate();
        x.minute(9);
        Check.due("LOST", x.told(13), 1);
        x.keep(1);
        x.goBack(0);
        Check.dueNight("IMAGE 0", x, 2, 18, 2, 0, 1, 2, 9);
        Check.due("what waited waits", x.where(1, 0), 10017);
        Check.due("NORTH too", x.where(1, 1), 10009);
        x.shut(false);
        x.minute(1);
        Check.dueNight("the TAIL goes on", x, 3, 17, 9, 0, 0, 3, 9);
        x.goBack(1);
        Check.dueNight("IMAGE 1 is LOST", x, 5, 27, 3, 1, 0, 2, 9);
    }

    private static void refusals() {
        HeldOnCross x = new HeldOnCross();
        Check.due("keep(-1)", x.keep(-1), UNKNOWN);
        Check.due("keep(2)", x.keep(2), UNKNOWN);
        Check.due("goBack(-1)", x.goBack(-1), UNKNOWN);
        Check.due("goBack(2)", x.goBack(2), UNKNOWN);
        Check.due("goBack(0)", x.goBack(0), NOT);
        Check.due("keep(0) without MOUNT", x.keep(0), 1);
        Check.due("goBack(1)", x.goBack(1), NOT);
        x.seed(9);
        Check.due("goBack(0) without MOUNT", x.goBack(0), 1);
        Check.due("its SEED", x.seed(1), 0);
    }

    private static void undoIsGone() {
        HeldOnCross x = Check.mounted("m10 9 99;");
        x.minute(1);
        x.minute(1);
        x.keep(2);
        x.goBack(0);
        Check.due("what is refused leaves it", x.told(20), 2);
        x.keep(0);
        Check.due("keep()", x.told(20), 0);
        Check.due("nothing can be undone", x.undo(), NOT);
        x.minute(1);
        x.minute(1);
        Check.due("from then on", x.told(20), 2);
        x.goBack(0);
        Check.due("goBack()", x.told(20), 0);
        Check.due("nothing can be undone", x.undo(), NOT);
        Check.due("EAST", x.told(11), 10002);
    }
}
