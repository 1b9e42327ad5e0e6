/** Counts answers that are due and those that are not, and makes objects with a text. */
final class Check {
    private static int right;
    private static int wrong;
    private static String heading = "";

    private Check() {
    }

    /** What is told ahead of an answer that is not due, from here on. */
    static void under(String what) {
        heading = "[" + what + "] ";
    }

    static void due(String call, long got, long want) {
        if (got == want) {
            right++;
        } else {
            wrong++;
            System.out.println(heading + call + " answered " + got + ", due is " + want);
        }
    }

    static void holds(String what, boolean is) {
        due(what, is ? 1 : 0, 1);
    }

    static void feedAll(HeldOnCross x, String text) {
        for (int i = 0; i < text.length(); i++) {
            x.feed(text.charAt(i));
        }
    }

    static HeldOnCross mounted(String text) {
        HeldOnCross x = new HeldOnCross();
        feedAll(x, text);
        if (x.mount() < 0) {
            wrong++;
            System.out.println("a test's text has a fault: " + text);
        }
        return x;
    }

    /** What told() answers for MINUTES, EAST, NORTH, LOST, SHUT, LIGHT minutes and TAIL. */
    static void dueNight(String when, HeldOnCross x, int minutes, int east, int north, int lost, int shut, int light, int tail) {
        due(when + ": MINUTES", x.told(10), minutes);
        due(when + ": EAST", x.told(11), east + 10000);
        due(when + ": NORTH", x.told(12), north + 10000);
        due(when + ": LOST", x.told(13), lost);
        due(when + ": SHUT", x.told(14), shut);
        due(when + ": LIGHT minutes", x.told(15), light);
        due(when + ": TAIL", x.told(16), tail);
    }

    /** EAST and NORTH, as told. */
    static void duePlace(String when, HeldOnCross x, int east, int north) {
        due(when + ": EAST", x.told(11), east + 10000);
        due(when + ": NORTH", x.told(12), north + 10000);
    }

    static void end(String name) {
        System.out.println(name + ": " + right + " right, " + wrong + " wrong");
        if (wrong != 0) {
            System.exit(1);
        }
    }
}
