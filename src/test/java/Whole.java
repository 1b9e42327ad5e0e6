import java.util.ArrayList;
import java.util.List;

/** All that can be asked of an object, gone through to its end: what could be undone, the images, what is left of THE TEXT. */
final class Whole {
    /** Where fault() stands in it. */
    static final int FAULT = 0;

    private final HeldOnCross x;
    private final List<Integer> answers = new ArrayList<>();

    private Whole(HeldOnCross x) {
        this.x = x;
    }

    /** The object is of no use behind this. Some 300 calls. */
    static List<Integer> of(HeldOnCross x) {
        Whole whole = new Whole(x);
        whole.answers.add(x.fault());
        whole.mount();
        whole.night();
        whole.tried();
        whole.notes();
        for (int i = 0; i <= 20; i++) {
            whole.answers.add(x.undo());
            whole.night();
        }
        whole.answers.add(x.seed(1));
        for (int i = 0; i <= 1; i++) {
            whole.answers.add(x.goBack(i));
            whole.night();
            whole.answers.add(x.seed(1));
        }
        whole.answers.add(x.tear());
        whole.answers.add(x.mount());
        whole.answers.add(x.fault());
        whole.mount();
        return whole.answers;
    }

    private void mount() {
        for (int what = 0; what <= 9; what++) {
            answers.add(x.told(what));
        }
        for (int i = 0; i < 9; i++) {
            answers.add(x.worm(i));
        }
        for (int s = 0; s < 6; s++) {
            answers.add(x.star(s, 0));
            answers.add(x.star(s, 1));
        }
    }

    private void night() {
        for (int what = 10; what <= 16; what++) {
            answers.add(x.told(what));
        }
        answers.add(x.where(1, 0));
        answers.add(x.where(1, 1));
        answers.add(x.judge());
    }

    private void tried() {
        answers.add(x.lostWhen());
        answers.add(x.stretch(20));
        answers.add(x.bestRule(9, 0));
        answers.add(x.nodded(0, 10, 9, 2, 9, -1));
        answers.add(x.guide(1));
        answers.add(x.turns(99, 100));
        answers.add(x.stop(30));
    }

    private void notes() {
        for (int what = 17; what <= 20; what++) {
            answers.add(x.told(what));
        }
        for (int i = 0; i < 9; i++) {
            answers.add(x.fits(i, 0));
            answers.add(x.fits(i, 1));
        }
        answers.add(x.periods());
        answers.add(x.look());
        answers.add(x.axes());
        answers.add(x.judge());
    }
}
