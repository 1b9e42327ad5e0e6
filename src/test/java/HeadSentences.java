import java.util.ArrayList;
import java.util.List;
import java.util.Map;
import java.util.Set;
import java.util.function.Supplier;

/** The head of "Terms": what holds for every call, above all how it is refused. */
final class HeadSentences {
    private static final int UNKNOWN = -1000000001, OUTSIDE = -1000000002, NOT = -1000000003, FULL = -1000000004;
    private static final Set<String> NEED_MOUNT = Set.of("minute", "press", "rule", "shut", "open", "plate", "drift", "where",
        "lostWhen", "stretch", "bestRule", "nodded", "turns", "stop", "look");
    private static final Set<String> NEED_STAR_IN_SIGHT = Set.of("minute", "press", "rule", "drift", "lostWhen", "stop");
    private static final Set<String> PASS_MINUTES = Set.of("minute", "rule", "drift");
    private static final Set<String> WRITE_DOWN = Set.of("feed", "see", "tail", "write");
    private static final Set<String> ASK_ALONE = Set.of("fault", "told", "worm", "star", "where", "lostWhen", "stretch", "bestRule",
        "nodded", "guide", "turns", "stop", "nods", "fits", "periods", "look", "axes", "judge");

    private HeadSentences() {
    }

    static void all() {
        Doc.terms("Words in capitals are told where they come first.");
        states();
        wholeNumbers();
        numbersFromZero();
        sets();
        none();
        orderOfRefusals();
        farBelow();
        edgesAreNotRefused();
        outsideChangesNothing();
        notAndFullChangeNothing();
        whatIsTakenChanges();
        whatAsksChangesNothing();
        placesAreAboveZero();
        Doc.terms("BILLION is 1000000000.");
        Check.due("nods(0, 50)", new HeldOnCross().nods(0, 50), 1000000000);
    }

    /** What the states are made for. */
    private static void states() {
        Check.due("busy: there is a MOUNT, not LOST", States.busy().told(0) * 10 + States.busy().told(13), 10);
        Check.due("lost", States.lost().told(13), 1);
        Check.due("late", States.late().told(10) * 10 + States.late().told(13), 90090);
        Check.due("late and lost", States.lateAndLost().told(10) * 10 + States.lateAndLost().told(13), 90011);
        Check.due("full: no MOUNT", States.full().told(0), 0);
    }

    private static void wholeNumbers() {
        Doc.terms("All numbers are whole; / cuts towards 0.");
        HeldOnCross x = Check.mounted("m9 9 99;");
        x.press(-7, 7);
        x.minute(1);
        Check.due("half of 7 is pressed", x.rule(0, 5, 1), 1);
        Check.duePlace("3, not 4, either way", x, -4, 4);
        HeldOnCross y = Check.mounted("m9 9 99;b3;");
        y.press(-3, 3);
        y.minute(1);
        Check.due("9 tenths of 9, in thirds", y.rule(0, 9, 1), 1);
        Check.duePlace("2 presses of 3 either way", y, -3, 3);
        HeldOnCross z = Check.mounted("m9 9 99;b3;");
        z.press(-1, 1);
        z.minute(1);
        Check.due("9 tenths of 3, in thirds, are 0 times", z.rule(0, 9, 1), 0);
        Check.duePlace("it stays", z, -3, 3);
        HeldOnCross west = Check.mounted("m9 8 99;");
        Check.due("turns(1, 199)", west.turns(1, 199), 1);
        Check.due("turns(1, 99)", west.turns(1, 99), 0);
    }

    private static void numbersFromZero() {
        Doc.terms("What has a number has it from 0 on, as it comes.");
        HeldOnCross x = Check.mounted("m9 9 99;w1,2,3;j0 104;s10 1;s20 2;s30 3;");
        Check.due("the first STAR", x.star(0, 0), 10);
        Check.due("the last STAR", x.star(2, 0), 30);
        Check.due("none behind it", x.star(3, 0), UNKNOWN);
        Check.due("THE WORM's first", x.worm(0), 1);
        Check.due("THE WORM's last", x.worm(2), 3);
        Check.due("none behind it", x.worm(3), OUTSIDE);
        Check.due("the first MINUTE", x.look(), 0);
        Check.due("the first MINUTE has the JUMP", x.where(1, 0), 10000 - 8 + 5);
        x.write(1, 0);
        Check.due("the first entry of THE BOOK", x.judge(), 0);
        Check.due("the first MINUTE of a nod", x.nodded(0, 10, 1, 1, 0, 0), 0);
    }

    private static void sets() {
        Doc.terms("A SET is a whole number, bit k for k.");
        HeldOnCross x = Check.mounted("m9 9 99;");
        Check.due("lengths 1 to 9", x.periods(), 2 + 4 + 8 + 16 + 32 + 64 + 128 + 256 + 512);
        x.see(0, 1);
        x.see(6, 2);
        Check.due("without 1, 2, 3, 6", x.periods(), 16 + 32 + 128 + 256 + 512);
        for (int v = -9; v <= 9; v++) {
            x.tear();
            x.tail(0, 1, v);
            Check.due("axes() by " + v, x.axes(), 1 << (v + 9));
        }
        x.tear();
        Check.due("all 19", x.axes(), (1 << 19) - 1);
    }

    private static void none() {
        Doc.terms("NONE is -1.");
        HeldOnCross x = Check.mounted("m9 9 99;");
        Check.due("NONE", HeldOnCross.NONE, -1);
        Check.due("fault()", x.fault(), -1);
        Check.due("told(5)", x.told(5), -1);
        Check.due("lostWhen()", x.lostWhen(), -1);
        Check.due("nodded() of a TAIL that is not", x.nodded(0, 1, 1, 1, 1, 0), -1);
        Check.due("guide(1)", x.guide(1), -1);
        Check.due("stop(99) of one that goes away", Check.mounted("m10 9 9;").stop(99), -1);
        x.see(0, 99);
        Check.due("fits(0, 1)", x.fits(0, 1), -1);
        Check.due("look()", x.look(), -1);
        Check.due("judge()", x.judge(), -1);
    }

    private static void orderOfRefusals() {
        Doc.terms("REFUSALS, of several the first in this order: UNKNOWN (a STAR, IMAGE that there is not), "
            + "OUTSIDE (another number out of its bounds), NOT (not now, as told), FULL.");
        HeldOnCross fresh = new HeldOnCross();
        Check.due("star(0, 0) of none", fresh.star(0, 0), UNKNOWN);
        Check.due("UNKNOWN and OUTSIDE", fresh.star(0, 2), UNKNOWN);
        Check.due("keep(2)", fresh.keep(2), UNKNOWN);
        Check.due("UNKNOWN and NOT", fresh.goBack(2), UNKNOWN);
        Check.due("NOT alone", fresh.goBack(1), NOT);
        HeldOnCross busy = States.busy();
        Check.due("star(2, 0) of two", busy.star(2, 0), UNKNOWN);
        Check.due("star(1, 2) of two", busy.star(1, 2), OUTSIDE);
        HeldOnCross both = States.lateAndLost();
        Check.due("LOST and above 9000", both.told(13) == 1 && both.told(10) > 9000 ? 1 : 0, 1);
        for (String name : PASS_MINUTES) {
            Calls.Call call = Calls.named(name);
            int last = call.bounds().length - 1;
            int[] tooMany = call.with(last, 100);
            Check.due("OUTSIDE and NOT: " + call.told(tooMany), call.act().of(States.lost(), tooMany), OUTSIDE);
            Check.due("OUTSIDE and FULL: " + call.told(tooMany), call.act().of(States.late(), tooMany), OUTSIDE);
            Check.due("all three: " + call.told(tooMany), call.act().of(both, tooMany), OUTSIDE);
            Check.due("NOT and FULL: " + call.told(call.plain()), call.of(both), NOT);
            Check.due("FULL alone: " + call.told(call.plain()), call.of(States.late()), FULL);
        }
    }

    private static void farBelow() {
        Doc.terms("They are far below all that is counted: -1000000001 and on.");
        Check.due("UNKNOWN", HeldOnCross.UNKNOWN, -1000000001);
        Check.due("OUTSIDE", HeldOnCross.OUTSIDE, -1000000002);
        Check.due("NOT", HeldOnCross.NOT, -1000000003);
        Check.due("FULL", HeldOnCross.FULL, -1000000004);
    }

    /** The least and the greatest of each number, in a state in which nothing else stands against the call. */
    private static void edgesAreNotRefused() {
        for (Calls.Call call : Calls.ALL) {
            for (int i = 0; i < call.bounds().length; i++) {
                for (int edge : call.hasBounds(i) ? call.bounds()[i] : new int[] {Integer.MIN_VALUE, -2, 0, 99, Integer.MAX_VALUE}) {
                    int[] a = call.with(i, edge);
                    Check.holds(call.told(a) + " is not refused", call.act().of(States.busy(), a) > UNKNOWN);
                }
            }
        }
    }

    /** One less, one more, and the ends of int, each in every state: as what and that it is refused, and nothing else. */
    private static void outsideChangesNothing() {
        Doc.terms("What is refused changes nothing.");
        for (Map.Entry<String, Supplier<HeldOnCross>> state : States.all().entrySet()) {
            List<Integer> before = Whole.of(state.getValue().get());
            for (Calls.Call call : Calls.ALL) {
                for (int i = 0; i < call.bounds().length; i++) {
                    for (int bad : call.hasBounds(i) ? beyond(call.bounds()[i]) : List.<Integer>of()) {
                        int[] a = call.with(i, bad);
                        // where there are no stars, the number of one is what stands against it first
                        boolean noStar = call.name().equals("star") && state.getValue().get().told(8) == 0;
                        dueRefused(state.getKey(), state.getValue(), call, a, noStar ? UNKNOWN : call.refusal(i), before);
                    }
                }
            }
        }
    }

    private static List<Integer> beyond(int[] bounds) {
        List<Integer> all = new ArrayList<>(List.of(Integer.MIN_VALUE, bounds[0] - 1));
        if (bounds[1] < Integer.MAX_VALUE) {
            all.add(bounds[1] + 1);
            all.add(Integer.MAX_VALUE);
        }
        return all;
    }

    private static void dueRefused(String state, Supplier<HeldOnCross> make, Calls.Call call, int[] a, int due, List<Integer> before) {
        HeldOnCross x = make.get();
        Check.due(state + ": " + call.told(a), call.act().of(x, a), due);
        Check.holds(state + ": " + call.told(a) + " changes nothing", Whole.of(x).equals(before));
    }

    private static int refusalIn(String state, String name) {
        boolean isWithout = state.equals("fresh") || state.equals("full");
        if (isWithout && name.equals("star")) {
            return UNKNOWN;
        }
        if (isWithout && (NEED_MOUNT.contains(name) || name.equals("undo"))) {
            return NOT;
        }
        if (name.equals("goBack") && !state.equals("busy") && !state.equals("lost")) {
            return NOT;
        }
        if (state.endsWith("lost") && NEED_STAR_IN_SIGHT.contains(name)) {
            return NOT;
        }
        if (state.equals("late") && PASS_MINUTES.contains(name)) {
            return FULL;
        }
        return state.equals("full") && WRITE_DOWN.contains(name) ? FULL : 0;
    }

    /** Each call with numbers that are within their bounds, in every state: refused where the document says so, and there alone. */
    private static void notAndFullChangeNothing() {
        for (Map.Entry<String, Supplier<HeldOnCross>> state : States.all().entrySet()) {
            List<Integer> before = Whole.of(state.getValue().get());
            for (Calls.Call call : Calls.ALL) {
                int due = refusalIn(state.getKey(), call.name());
                if (due != 0) {
                    dueRefused(state.getKey(), state.getValue(), call, call.plain(), due, before);
                } else {
                    Check.holds(state.getKey() + ": " + call.name() + " is not refused", call.of(state.getValue().get()) > UNKNOWN);
                }
            }
        }
    }

    /** What is asked of the whole of an object is fine enough to show each change. */
    private static void whatIsTakenChanges() {
        List<Integer> before = Whole.of(States.busy());
        for (Calls.Call call : Calls.ALL) {
            if (!ASK_ALONE.contains(call.name())) {
                HeldOnCross x = States.busy();
                call.of(x);
                Check.holds(call.name() + " changes something", !Whole.of(x).equals(before));
            }
        }
    }

    private static void whatAsksChangesNothing() {
        Doc.terms("======== 3 TRIED from now; nothing changes by it.");
        for (Map.Entry<String, Supplier<HeldOnCross>> state : States.all().entrySet()) {
            List<Integer> before = Whole.of(state.getValue().get());
            for (String name : ASK_ALONE) {
                Calls.Call call = Calls.named(name);
                HeldOnCross x = state.getValue().get();
                call.of(x);
                for (int i = 0; i < call.bounds().length; i++) {
                    for (int edge : call.bounds()[i]) {
                        call.act().of(x, call.with(i, edge));
                    }
                }
                Check.holds(state.getKey() + ": " + name + " changes nothing", Whole.of(x).equals(before));
            }
        }
    }

    private static void placesAreAboveZero() {
        Doc.terms("Places are told in tenths of a HAIR, and 10000 (so that they are above 0).");
        dueFarthest("m0 0 999;w0;j3 0;b9;", -1);
        dueFarthest("m18 18 999;w18;j3 198;b9;", 1);
    }

    /** As far as it can be: at L in both, then all that moves it in one MINUTE. Minutes 0 to 2 bring it there. */
    private static void dueFarthest(String text, int way) {
        HeldOnCross x = Check.mounted(text);
        x.press(99 * way, 99 * way);
        Check.due("891 and 18", x.minute(1), 10000 + way * 909);
        x.press(8 * way, 10 * way);
        x.minute(1);
        Check.duePlace("at L", x, 999 * way, 999 * way);
        x.press(-2 * way, -way);
        x.minute(1);
        Check.duePlace("still at L", x, 999 * way, 999 * way);
        Check.due("not LOST", x.told(13), 0);
        x.press(99 * way, 99 * way);
        Check.due("and 891, 18, 99", x.where(1, 0), 10000 + way * 2007);
        Check.due("and 891, 9", x.minute(1) - x.told(12), way * 108);
        Check.duePlace("as far as it can be", x, 2007 * way, 1899 * way);
        Check.due("LOST", x.told(13), 1);
    }
}
