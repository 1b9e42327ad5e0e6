import java.util.Arrays;
import java.util.List;

/** The calls of the face with the bounds that the document tells for their numbers. */
final class Calls {
    private static final int NO_BOUND = Integer.MAX_VALUE;

    private Calls() {
    }

    interface Act {
        int of(HeldOnCross x, int[] a);
    }

    /** A call, numbers for it that are within all bounds, and the least and greatest of each of them (the others as they are). */
    record Call(String name, Act act, int[] plain, int[]... bounds) {
        int of(HeldOnCross x) {
            return act.of(x, plain);
        }

        /** With one of the numbers another. */
        int[] with(int i, int value) {
            int[] a = plain.clone();
            a[i] = value;
            return a;
        }

        String told(int[] a) {
            return name + Arrays.toString(a);
        }

        /** What is told for a number that is out of its bounds. */
        int refusal(int i) {
            boolean isNumberOfThing = i == 0 && (name.equals("star") || name.equals("keep") || name.equals("goBack"));
            return isNumberOfThing ? HeldOnCross.UNKNOWN : HeldOnCross.OUTSIDE;
        }

        boolean hasBounds(int i) {
            return bounds[i][0] != NO_BOUND;
        }
    }

    private static int[] in(int least, int most) {
        return new int[] {least, most};
    }

    private static int[] free() {
        return new int[] {NO_BOUND, NO_BOUND};
    }

    private static int[] a(int... numbers) {
        return numbers;
    }

    /** worm, fits and star have the bounds of a WORM of four numbers and of two STARS. */
    static final List<Call> ALL = List.of(
        new Call("feed", (x, a) -> x.feed(a[0]), a(109), in(0, 255)),
        new Call("mount", (x, a) -> x.mount(), a()),
        new Call("fault", (x, a) -> x.fault(), a()),
        new Call("told", (x, a) -> x.told(a[0]), a(0), in(0, 20)),
        new Call("worm", (x, a) -> x.worm(a[0]), a(0), in(0, 3)),
        new Call("star", (x, a) -> x.star(a[0], a[1]), a(0, 0), in(0, 1), in(0, 1)),
        new Call("minute", (x, a) -> x.minute(a[0]), a(1), in(1, 99)),
        new Call("press", (x, a) -> x.press(a[0], a[1]), a(3, 0), in(-99, 99), in(-99, 99)),
        new Call("rule", (x, a) -> x.rule(a[0], a[1], a[2]), a(1, 5, 1), in(0, 99), in(0, 20), in(1, 99)),
        new Call("shut", (x, a) -> x.shut(true), a()),
        new Call("open", (x, a) -> x.shut(false), a()),
        new Call("plate", (x, a) -> x.plate(), a()),
        new Call("drift", (x, a) -> x.drift(a[0]), a(1), in(1, 99)),
        new Call("undo", (x, a) -> x.undo(), a()),
        new Call("where", (x, a) -> x.where(a[0], a[1]), a(1, 0), in(0, 999), in(0, 1)),
        new Call("lostWhen", (x, a) -> x.lostWhen(), a()),
        new Call("stretch", (x, a) -> x.stretch(a[0]), a(5), in(0, 999)),
        new Call("bestRule", (x, a) -> x.bestRule(a[0], a[1]), a(2, 0), in(1, 200), in(0, 1)),
        new Call("nodded", (x, a) -> x.nodded(a[0], a[1], a[2], a[3], a[4], a[5]), a(0, 10, 5, 2, 3, -1),
            in(0, 99), in(0, 20), in(1, 60), in(1, 20), in(0, 9999), free()),
        new Call("guide", (x, a) -> x.guide(a[0]), a(1), in(1, 9)),
        new Call("turns", (x, a) -> x.turns(a[0], a[1]), a(1, 1), in(0, 99), in(0, 999)),
        new Call("stop", (x, a) -> x.stop(a[0]), a(1), in(0, 999)),
        new Call("nods", (x, a) -> x.nods(a[0], a[1]), a(1, 1), in(0, 99), in(0, 100)),
        new Call("see", (x, a) -> x.see(a[0], a[1]), a(1, 1), in(0, 999), in(-150, 150)),
        new Call("fits", (x, a) -> x.fits(a[0], a[1]), a(0, 0), in(0, 3), in(0, 1)),
        new Call("periods", (x, a) -> x.periods(), a()),
        new Call("look", (x, a) -> x.look(), a()),
        new Call("tail", (x, a) -> x.tail(a[0], a[1], a[2]), a(0, 999, 0), in(0, 998), in(1, 999), in(-9000, 9000)),
        new Call("axes", (x, a) -> x.axes(), a()),
        new Call("write", (x, a) -> x.write(a[0], a[1]), a(1, 1), in(-2000, 2000), in(-2000, 2000)),
        new Call("tear", (x, a) -> x.tear(), a()),
        new Call("judge", (x, a) -> x.judge(), a()),
        new Call("seed", (x, a) -> x.seed(a[0]), a(1), in(0, Integer.MAX_VALUE)),
        new Call("keep", (x, a) -> x.keep(a[0]), a(0), in(0, 1)),
        new Call("goBack", (x, a) -> x.goBack(a[0]), a(0), in(0, 1)));

    static Call named(String name) {
        for (Call call : ALL) {
            if (call.name.equals(name)) {
                return call;
            }
        }
        throw new IllegalArgumentException(name);
    }
}
