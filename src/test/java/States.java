import java.util.Map;
import java.util.TreeMap;
import java.util.function.Supplier;

/** Objects in states that differ in what they refuse; each call makes the like one anew. */
final class States {
    private States() {
    }

    static Map<String, Supplier<HeldOnCross>> all() {
        Map<String, Supplier<HeldOnCross>> all = new TreeMap<>();
        all.put("fresh", HeldOnCross::new);
        all.put("busy", States::busy);
        all.put("lost", States::lost);
        all.put("late", States::late);
        all.put("late and lost", States::lateAndLost);
        all.put("full", States::full);
        return all;
    }

    /** Nothing is as at first: images, a dance, what waits, a plate that is SHUT, notes, a text that goes on. */
    static HeldOnCross busy() {
        HeldOnCross x = busyButText();
        Check.feedAll(x, "m3 5 70;w4,8;s1 2;j");
        return x;
    }

    static HeldOnCross busyButText() {
        HeldOnCross x = Check.mounted("m10 7 200;w12,9,6,8;j9 129;s20 5;s8 3;b2;");
        x.seed(77);
        x.minute(3);
        x.press(1, 0);
        x.keep(0);
        x.drift(2);
        x.keep(1);
        x.minute(2);
        x.press(1, 1);
        x.shut(true);
        x.minute(1);
        x.shut(false);
        x.rule(1, 5, 3);
        x.plate();
        x.minute(2);
        x.press(2, -3);
        x.minute(1);
        x.press(-4, 5);
        x.shut(true);
        x.see(5, 1);
        x.see(6, -2);
        x.tail(3, 9, -12);
        x.write(0, 0);
        x.write(3, 4);
        return x;
    }

    static HeldOnCross lost() {
        HeldOnCross x = busy();
        x.press(-99, 99);
        x.minute(2);
        x.press(-99, 99);
        x.minute(2);
        return x;
    }

    /** MINUTES are 9009. */
    static HeldOnCross late() {
        HeldOnCross x = Check.mounted("m9 9 50;w10,8;s5 5;b3;");
        for (int i = 0; i < 91; i++) {
            x.minute(99);
        }
        x.press(2, 3);
        return x;
    }

    static HeldOnCross lateAndLost() {
        HeldOnCross x = Check.mounted("m9 9 50;w10,8;s5 5;b3;");
        for (int i = 0; i < 90; i++) {
            x.minute(99);
        }
        x.minute(90);
        x.press(99, 0);
        x.minute(5);
        return x;
    }

    /** No MOUNT, but nothing more is taken of what can be written down. */
    static HeldOnCross full() {
        HeldOnCross x = new HeldOnCross();
        for (int i = 0; i < 10; i++) {
            x.see(i, i - 5);
        }
        for (int i = 0; i < 6; i++) {
            x.tail(i, i + 1, 3);
        }
        for (int i = 0; i < 15; i++) {
            x.write(0, 0);
        }
        Check.feedAll(x, "m10 7 200;w12,9,6,8;" + " ".repeat(209) + ";");
        return x;
    }
}
