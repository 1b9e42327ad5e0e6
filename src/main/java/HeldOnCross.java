/**
 * A guide star held on the cross of two hairs while a plate is exposed beside it.
 * What each call must answer is told in ../shared/DOC.md; its words in capitals are explained there.
 */
public final class HeldOnCross {
    public static final int NONE = -1, UNKNOWN = -1000000001, OUTSIDE = -1000000002, NOT = -1000000003, FULL = -1000000004;

    /** Places are told so much higher than they are, so that no place is mistaken for a refusal. */
    private static final int PLACE_LIFT = 10000;
    /** Rates (CLOCK, AXIS, THE WORM) are told so much higher than they are. */
    private static final int RATE_LIFT = 9;
    /** The size of the JUMP is told so much higher than it is. */
    private static final int JUMP_LIFT = 99;
    private static final int MOST_MINUTES = 9000;
    private static final int FAR_AHEAD = 999;
    private static final int LOST_TAIL = 9999;
    private static final int BILLION = 1000000000;

    private final Reader reader;
    private final Mount mounted;
    /** A text is read into this one, so that a fault leaves the one in use as it was. */
    private final Mount spare;
    private final Night night;
    private final Trials trials;
    private final History history;
    private final Notebook notebook;
    private final Draws draws;
    private final Image firstImage;
    private final Image secondImage;

    public HeldOnCross() {
        reader = new Reader();
        mounted = new Mount();
        spare = new Mount();
        night = new Night();
        trials = new Trials(mounted, night);
        history = new History();
        notebook = new Notebook();
        draws = new Draws();
        firstImage = new Image();
        secondImage = new Image();
    }

    // ---- the mount

    public int feed(int letter) {
        if (!isWithin(letter, 0, 255)) {
            return OUTSIDE;
        }
        return reader.addLetter(letter) ? reader.length : FULL;
    }

    public int mount() {
        reader.readInto(spare);
        if (reader.faultNumber != 0) {
            return -10 - reader.faultNumber;
        }
        mounted.copyFrom(spare);
        night.minutes = 0;
        night.takeFreshPlate();
        notebook.clear();
        history.clear();
        firstImage.isKept = false;
        secondImage.isKept = false;
        return mounted.starCount;
    }

    public int fault() {
        return reader.faultPlace;
    }

    public int told(int what) {
        switch (what) {
            case 0: return mounted.isThere ? 1 : 0;
            case 1: return mounted.clock + RATE_LIFT;
            case 2: return mounted.axis + RATE_LIFT;
            case 3: return mounted.limit;
            case 4: return mounted.wormLength;
            case 5: return mounted.jumpMinute;
            case 6: return mounted.jumpSize + JUMP_LIFT;
            case 7: return mounted.perPress;
            case 8: return mounted.starCount;
            case 9: return reader.length;
            case 10: return night.minutes;
            case 11: return night.east + PLACE_LIFT;
            case 12: return night.north + PLACE_LIFT;
            case 13: return night.isLost ? 1 : 0;
            case 14: return night.isShut ? 1 : 0;
            case 15: return night.light;
            case 16: return night.tailLength();
            case 17: return notebook.seenCount;
            case 18: return notebook.tailCount;
            case 19: return notebook.bookCount;
            case 20: return history.count;
            default: return OUTSIDE;
        }
    }

    public int worm(int i) {
        if (!isWithin(i, 0, mounted.wormLength - 1)) {
            return OUTSIDE;
        }
        return mounted.wormAt(i) + RATE_LIFT;
    }

    public int star(int s, int what) {
        if (!isWithin(s, 0, mounted.starCount - 1)) {
            return UNKNOWN;
        }
        if (!isWithin(what, 0, 1)) {
            return OUTSIDE;
        }
        return what == 0 ? mounted.hairsOf(s) : mounted.lightOf(s);
    }

    // ---- what is done

    public int minute(int n) {
        int refusal = refusalOfMinutes(n);
        if (refusal != 0) {
            return refusal;
        }
        history.push(night);
        night.passMany(mounted, n);
        return night.east + PLACE_LIFT;
    }

    public int press(int east, int north) {
        if (!isWithin(east, -99, 99) || !isWithin(north, -99, 99)) {
            return OUTSIDE;
        }
        if (cannotGoOn()) {
            return NOT;
        }
        history.push(night);
        night.waitEast = east;
        night.waitNorth = north;
        return 1;
    }

    public int rule(int h, int f, int n) {
        if (!isRule(h, f)) {
            return OUTSIDE;
        }
        int refusal = refusalOfMinutes(n);
        if (refusal != 0) {
            return refusal;
        }
        history.push(night);
        int pressed = 0;
        for (int i = 0; i < n && !night.isLost; i++) {
            if (night.passByRule(mounted, h, f)) {
                pressed++;
            }
        }
        return pressed;
    }

    public int shut(boolean is) {
        if (!mounted.isThere) {
            return NOT;
        }
        history.push(night);
        int was = night.isShut ? 1 : 0;
        night.isShut = is;
        return was;
    }

    public int plate() {
        if (!mounted.isThere) {
            return NOT;
        }
        history.push(night);
        int old = night.tailLength();
        night.takeFreshPlate();
        return old;
    }

    public int drift(int n) {
        int refusal = refusalOfMinutes(n);
        if (refusal != 0) {
            return refusal;
        }
        history.push(night);
        for (int i = 0; i < n && !night.isLost; i++) {
            night.east += draws.drawOf(5) - 2;
            night.north += draws.drawOf(5) - 2;
            night.passOne(mounted);
        }
        return night.east + PLACE_LIFT;
    }

    public int undo() {
        return history.popInto(night) ? history.count : NOT;
    }

    // ---- tried

    public int where(int n, int what) {
        if (!isWithin(n, 0, FAR_AHEAD) || !isWithin(what, 0, 1)) {
            return OUTSIDE;
        }
        if (!mounted.isThere) {
            return NOT;
        }
        trials.goOn(n);
        return (what == 0 ? trials.tried.east : trials.tried.north) + PLACE_LIFT;
    }

    public int lostWhen() {
        return cannotGoOn() ? NOT : trials.minuteOfLoss();
    }

    public int stretch(int d) {
        if (!isWithin(d, 0, 999)) {
            return OUTSIDE;
        }
        return mounted.isThere ? trials.longestWithin(d) : NOT;
    }

    public int bestRule(int n, int what) {
        if (!isWithin(n, 1, 200) || !isWithin(what, 0, 1)) {
            return OUTSIDE;
        }
        if (!mounted.isThere) {
            return NOT;
        }
        trials.findBestRule(n);
        return what == 0 ? trials.ruleFound : trials.tailFound;
    }

    public int nodded(int h, int f, int n, int k, int d, int i) {
        if (!isRule(h, f) || !isWithin(n, 1, 60) || !isWithin(k, 1, 20) || !isWithin(d, 0, LOST_TAIL)) {
            return OUTSIDE;
        }
        if (!mounted.isThere) {
            return NOT;
        }
        int found = 0;
        for (int start = 0; start <= n - k; start++) {
            if (trials.tailWithNod(h, f, n, start, start + k) == d) {
                if (found == i) {
                    return start;
                }
                found++;
            }
        }
        return i == NONE ? found : NONE;
    }

    public int guide(int b) {
        return isWithin(b, 1, 9) ? mounted.starToGuideBy(b) : OUTSIDE;
    }

    public int turns(int r, int n) {
        if (!isWithin(r, 0, 99) || !isWithin(n, 0, 999)) {
            return OUTSIDE;
        }
        return mounted.isThere ? r * Math.abs(mounted.axis) * n / 100 : NOT;
    }

    public int stop(int w) {
        if (!isWithin(w, 0, 999)) {
            return OUTSIDE;
        }
        return cannotGoOn() ? NOT : trials.minutesToLight(w);
    }

    public int nods(int n, int q) {
        if (!isWithin(n, 0, 99) || !isWithin(q, 0, 100)) {
            return OUTSIDE;
        }
        long odds = BILLION;
        for (int i = 0; i < n; i++) {
            odds = odds * (100 - q) / 100;
        }
        return (int) odds;
    }

    // ---- what was seen

    public int see(int t, int d) {
        if (!isWithin(t, 0, 999) || !isWithin(d, -150, 150)) {
            return OUTSIDE;
        }
        return notebook.addSeen(t, d) ? notebook.seenCount : FULL;
    }

    public int fits(int i, int what) {
        if (!isWithin(i, 0, mounted.wormLength - 1) || !isWithin(what, 0, 1)) {
            return OUTSIDE;
        }
        int count = 0;
        int least = NONE;
        for (int v = -9; v <= 9; v++) {
            if (notebook.isWormFit(mounted, mounted.wormLength, i, v)) {
                least = count == 0 ? v + RATE_LIFT : least;
                count++;
            }
        }
        return what == 0 ? count : least;
    }

    public int periods() {
        int set = 0;
        for (int length = 1; length <= 9; length++) {
            if (notebook.isPeriod(mounted, length)) {
                set |= 1 << length;
            }
        }
        return set;
    }

    public int look() {
        if (!mounted.isThere) {
            return NOT;
        }
        for (int t = night.minutes; t < night.minutes + 99; t++) {
            if (!notebook.hasSeenPlaceOf(t, mounted.wormLength)) {
                return t;
            }
        }
        return NONE;
    }

    public int tail(int a, int b, int m) {
        if (!isWithin(a, 0, 999) || !isWithin(b, 0, 999) || a >= b || !isWithin(m, -9000, 9000)) {
            return OUTSIDE;
        }
        return notebook.addTail(b - a, m) ? notebook.tailCount : FULL;
    }

    public int axes() {
        int set = 0;
        for (int v = -9; v <= 9; v++) {
            if (notebook.isAxisFit(v)) {
                set |= 1 << (v + RATE_LIFT);
            }
        }
        return set;
    }

    public int write(int east, int north) {
        if (!isWithin(east, -2000, 2000) || !isWithin(north, -2000, 2000)) {
            return OUTSIDE;
        }
        return notebook.addToBook(east, north) ? notebook.bookCount : FULL;
    }

    public int tear() {
        int had = notebook.seenCount + notebook.tailCount + notebook.bookCount;
        notebook.clear();
        return had;
    }

    public int judge() {
        return notebook.firstWrong(night.east, night.north);
    }

    // ---- draws, images

    public int seed(int v) {
        if (v < 0) {
            return OUTSIDE;
        }
        int was = draws.value;
        draws.value = v;
        return was;
    }

    public int keep(int i) {
        Image image = imageAt(i);
        if (image == null) {
            return UNKNOWN;
        }
        image.isKept = true;
        image.kept.copyFrom(night);
        image.seedThen = draws.value;
        history.clear();
        return 1;
    }

    public int goBack(int i) {
        Image image = imageAt(i);
        if (image == null) {
            return UNKNOWN;
        }
        if (!image.isKept) {
            return NOT;
        }
        night.copyFrom(image.kept);
        draws.value = image.seedThen;
        history.clear();
        return 1;
    }

    private Image imageAt(int i) {
        if (i == 0) {
            return firstImage;
        }
        return i == 1 ? secondImage : null;
    }

    private boolean cannotGoOn() {
        return !mounted.isThere || night.isLost;
    }

    /** Why n MINUTES cannot be gone through now; 0 if they can. */
    private int refusalOfMinutes(int n) {
        if (!isWithin(n, 1, 99)) {
            return OUTSIDE;
        }
        if (cannotGoOn()) {
            return NOT;
        }
        return night.minutes > MOST_MINUTES ? FULL : 0;
    }

    private static boolean isRule(int h, int f) {
        return isWithin(h, 0, 99) && isWithin(f, 0, 20);
    }

    private static boolean isWithin(int value, int least, int most) {
        return value >= least && value <= most;
    }

    /** THE MOUNT as a text told it; as it is made, there is none. */
    private static final class Mount {
        static final int MOST_WORM = 9;
        static final int MOST_STARS = 6;

        boolean isThere;
        int clock;
        int axis;
        int limit;
        int wormLength;
        int jumpMinute;
        int jumpSize;
        int perPress;
        int starCount;
        private final int[] wormRates;
        private final int[] starHairs;
        private final int[] starLights;

        Mount() {
            wormRates = new int[MOST_WORM];
            starHairs = new int[MOST_STARS];
            starLights = new int[MOST_STARS];
            clear();
        }

        void clear() {
            isThere = false;
            clock = 0;
            axis = 0;
            limit = 0;
            setWorm(0, 0);
            jumpMinute = NONE;
            jumpSize = 0;
            perPress = 1;
            starCount = 0;
        }

        void copyFrom(Mount other) {
            isThere = other.isThere;
            clock = other.clock;
            axis = other.axis;
            limit = other.limit;
            wormLength = other.wormLength;
            jumpMinute = other.jumpMinute;
            jumpSize = other.jumpSize;
            perPress = other.perPress;
            starCount = other.starCount;
            for (int i = 0; i < wormRates.length; i++) {
                wormRates[i] = other.wormAt(i);
            }
            for (int s = 0; s < starHairs.length && s < starLights.length; s++) {
                starHairs[s] = other.hairsOf(s);
                starLights[s] = other.lightOf(s);
            }
        }

        void setWorm(int i, int rate) {
            if (i >= 0 && i < wormRates.length) {
                wormRates[i] = rate;
                wormLength = i + 1;
            }
        }

        int wormAt(int i) {
            return i >= 0 && i < wormRates.length ? wormRates[i] : 0;
        }

        void addStar(int hairs, int light) {
            if (starCount >= 0 && starCount < starHairs.length && starCount < starLights.length) {
                starHairs[starCount] = hairs;
                starLights[starCount] = light;
                starCount++;
            }
        }

        int hairsOf(int s) {
            return s >= 0 && s < starHairs.length ? starHairs[s] : 0;
        }

        int lightOf(int s) {
            return s >= 0 && s < starLights.length ? starLights[s] : 0;
        }

        int jumpAt(int t) {
            return t == jumpMinute ? jumpSize : 0;
        }

        int eastwardAt(int t) {
            int place = wormLength > 0 ? t % wormLength : 0;
            return clock + wormAt(place) + jumpAt(t);
        }

        int pressesAgainst(int place, int h, int f) {
            if (perPress < 1 || Math.abs(place) <= h) {
                return 0;
            }
            return -(place * f / 10 / perPress);
        }

        int starToGuideBy(int leastLight) {
            int best = NONE;
            for (int s = 0; s < starCount; s++) {
                if (lightOf(s) >= leastLight && (best == NONE || isBetterStar(s, best))) {
                    best = s;
                }
            }
            return best;
        }

        private boolean isBetterStar(int s, int other) {
            if (hairsOf(s) != hairsOf(other)) {
                return hairsOf(s) < hairsOf(other);
            }
            return lightOf(s) > lightOf(other);
        }
    }

    /** Holds THE TEXT and reads it; what it finds first wrong is kept until the next reading. */
    private static final class Reader {
        static final int MOST_LETTERS = 230;
        static final int CANNOT_STAND = 1;
        static final int BAD_NUMBER = 2;
        static final int AGAIN = 3;
        static final int END = -1;

        int length;
        int faultNumber;
        int faultPlace;
        private int at;
        private boolean isWormTold;
        private boolean isJumpTold;
        private boolean areButtonsTold;
        private final int[] letters;

        Reader() {
            letters = new int[MOST_LETTERS];
            faultPlace = NONE;
        }

        boolean addLetter(int letter) {
            if (length < 0 || length >= letters.length) {
                return false;
            }
            letters[length] = letter;
            length++;
            return true;
        }

        /** THE TEXT is empty behind this. */
        void readInto(Mount mount) {
            mount.clear();
            at = 0;
            faultNumber = 0;
            faultPlace = NONE;
            isWormTold = false;
            isJumpTold = false;
            areButtonsTold = false;
            skipBlanks();
            // every clause takes a letter at least, so there are no more clauses than letters
            for (int i = 0; i < MOST_LETTERS && at < length && faultNumber == 0; i++) {
                readClause(mount);
                skipBlanks();
            }
            length = 0;
        }

        private void readClause(Mount mount) {
            int word = letterHere();
            int wordFault = faultOfWord(word, mount);
            if (wordFault != 0) {
                setFault(wordFault, at);
                return;
            }
            at++;
            switch (word) {
                case 'm': readRates(mount); break;
                case 'w': readWorm(mount); break;
                case 'j': readJump(mount); break;
                case 's': readStar(mount); break;
                default: readButtons(mount); break;
            }
            if (!takes(';')) {
                setFault(CANNOT_STAND, at);
            }
        }

        private int faultOfWord(int word, Mount mount) {
            if (!mount.isThere) {
                return word == 'm' ? 0 : CANNOT_STAND;
            }
            switch (word) {
                case 'm': return AGAIN;
                case 'w': return isWormTold ? AGAIN : 0;
                case 'j': return isJumpTold ? AGAIN : 0;
                case 's': return mount.starCount >= Mount.MOST_STARS ? AGAIN : 0;
                case 'b': return areButtonsTold ? AGAIN : 0;
                default: return CANNOT_STAND;
            }
        }

        private void readRates(Mount mount) {
            mount.isThere = true;
            mount.clock = readNumber(0, 18) - RATE_LIFT;
            mount.axis = readNumber(0, 18) - RATE_LIFT;
            mount.limit = readNumber(1, 999);
        }

        private void readWorm(Mount mount) {
            isWormTold = true;
            // a tenth ',' is left standing, so that it is found where ';' is due
            for (int i = 0; i == 0 || (i < Mount.MOST_WORM && takes(',')); i++) {
                mount.setWorm(i, readNumber(0, 18) - RATE_LIFT);
            }
        }

        private void readJump(Mount mount) {
            isJumpTold = true;
            mount.jumpMinute = readNumber(0, 999);
            mount.jumpSize = readNumber(0, 198) - JUMP_LIFT;
        }

        private void readStar(Mount mount) {
            int hairs = readNumber(0, 99);
            int light = readNumber(1, 9);
            mount.addStar(hairs, light);
        }

        private void readButtons(Mount mount) {
            areButtonsTold = true;
            mount.perPress = readNumber(1, 9);
        }

        private int readNumber(int least, int most) {
            skipBlanks();
            int first = at;
            int value = 0;
            for (int i = 0; i < MOST_LETTERS && isFigure(letterHere()); i++) {
                // a number of more than three figures is faulty whatever it is: it need not be exact
                value = Math.min(value * 10 + letterHere() - '0', 9999);
                at++;
            }
            if (at == first) {
                setFault(CANNOT_STAND, first);
                return least;
            }
            if (at - first > 3 || !isWithin(value, least, most)) {
                setFault(BAD_NUMBER, first);
                return least;
            }
            return value;
        }

        private boolean takes(int sign) {
            skipBlanks();
            if (letterHere() != sign) {
                return false;
            }
            at++;
            return true;
        }

        private void skipBlanks() {
            for (int i = 0; i < MOST_LETTERS && letterHere() == ' '; i++) {
                at++;
            }
        }

        private int letterHere() {
            return at >= 0 && at < length && at < letters.length ? letters[at] : END;
        }

        /** Of several the first stays: reading goes on from left to right. */
        private void setFault(int number, int place) {
            if (faultNumber == 0) {
                faultNumber = number;
                faultPlace = place;
            }
        }

        private static boolean isFigure(int letter) {
            return letter >= '0' && letter <= '9';
        }
    }

    /** All of the document's section 2: MINUTES, THE STAR, BUTTONS that wait, THE PLATE. */
    private static final class Night {
        int minutes;
        int east;
        int north;
        boolean isLost;
        boolean isShut;
        int waitEast;
        int waitNorth;
        int light;
        private int leastEast;
        private int greatestEast;
        private int leastNorth;
        private int greatestNorth;

        Night() {
        }

        void copyFrom(Night other) {
            minutes = other.minutes;
            east = other.east;
            north = other.north;
            isLost = other.isLost;
            isShut = other.isShut;
            waitEast = other.waitEast;
            waitNorth = other.waitNorth;
            light = other.light;
            leastEast = other.leastEast;
            greatestEast = other.greatestEast;
            leastNorth = other.leastNorth;
            greatestNorth = other.greatestNorth;
        }

        void takeFreshPlate() {
            east = 0;
            north = 0;
            isLost = false;
            isShut = false;
            waitEast = 0;
            waitNorth = 0;
            light = 0;
        }

        void passMany(Mount mount, int n) {
            for (int i = 0; i < n && !isLost; i++) {
                passOne(mount);
            }
        }

        void passOne(Mount mount) {
            east += waitEast * mount.perPress + mount.eastwardAt(minutes);
            north += waitNorth * mount.perPress + mount.axis;
            waitEast = 0;
            waitNorth = 0;
            minutes++;
            isLost = Math.abs(east) > mount.limit || Math.abs(north) > mount.limit;
            if (!isLost && !isShut) {
                gather();
            }
        }

        /** Whether something was PRESSED. */
        boolean passByRule(Mount mount, int h, int f) {
            waitEast = mount.pressesAgainst(east, h, f);
            waitNorth = mount.pressesAgainst(north, h, f);
            boolean isPressed = waitEast != 0 || waitNorth != 0;
            passOne(mount);
            return isPressed;
        }

        private void gather() {
            boolean isFirst = light == 0;
            leastEast = isFirst ? east : Math.min(leastEast, east);
            greatestEast = isFirst ? east : Math.max(greatestEast, east);
            leastNorth = isFirst ? north : Math.min(leastNorth, north);
            greatestNorth = isFirst ? north : Math.max(greatestNorth, north);
            light++;
        }

        int tailLength() {
            return light == 0 ? 0 : Math.max(greatestEast - leastEast, greatestNorth - leastNorth);
        }
    }

    /** What is tried goes on in a night of its own, so that nothing changes by it. */
    private static final class Trials {
        static final int NO_NOD = -1;

        int ruleFound;
        int tailFound;
        final Night tried;
        private final Mount mount;
        private final Night now;
        private int pressed;

        Trials(Mount mount, Night now) {
            this.mount = mount;
            this.now = now;
            tried = new Night();
        }

        void goOn(int n) {
            tried.copyFrom(now);
            tried.passMany(mount, n);
        }

        int minuteOfLoss() {
            goOn(FAR_AHEAD);
            return tried.isLost ? tried.minutes - 1 : NONE;
        }

        int minutesToLight(int light) {
            int missing = Math.max(light - now.light, 0);
            goOn(missing);
            return tried.isLost ? NONE : missing;
        }

        int longestWithin(int mostTail) {
            startFresh();
            for (int n = 0; n < FAR_AHEAD; n++) {
                tried.passOne(mount);
                if (tried.isLost || tried.tailLength() > mostTail) {
                    return n;
                }
            }
            return FAR_AHEAD;
        }

        void findBestRule(int n) {
            tailFound = LOST_TAIL + 1;
            int bestPressed = 0;
            for (int h = 0; h <= 9; h++) {
                for (int f = 1; f <= 10; f++) {
                    int length = tailWithNod(h, f, n, NO_NOD, NO_NOD);
                    if (length < tailFound || (length == tailFound && pressed < bestPressed)) {
                        tailFound = length;
                        bestPressed = pressed;
                        ruleFound = 100 * h + f;
                    }
                }
            }
        }

        /** The TAIL by a RULE, but for the minutes from one on and ahead of another in which nothing is PRESSED. */
        int tailWithNod(int h, int f, int n, int from, int ahead) {
            startFresh();
            pressed = 0;
            for (int i = 0; i < n && !tried.isLost; i++) {
                if (i >= from && i < ahead) {
                    tried.passOne(mount);
                } else if (tried.passByRule(mount, h, f)) {
                    pressed++;
                }
            }
            return tried.isLost ? LOST_TAIL : tried.tailLength();
        }

        private void startFresh() {
            tried.takeFreshPlate();
            tried.minutes = now.minutes;
        }
    }

    /** The nights that undo() can bring back: a ring, so that the oldest make room. */
    private static final class History {
        static final int MOST_KEPT = 20;

        int count;
        private int next;
        private final Night[] ring;

        History() {
            ring = new Night[MOST_KEPT];
            for (int i = 0; i < ring.length; i++) {
                ring[i] = new Night();
            }
        }

        void clear() {
            count = 0;
        }

        void push(Night night) {
            Night slot = slotAt(next);
            if (slot == null) {
                return;
            }
            slot.copyFrom(night);
            next = (next + 1) % MOST_KEPT;
            count = Math.min(count + 1, MOST_KEPT);
        }

        boolean popInto(Night night) {
            int latest = (next + MOST_KEPT - 1) % MOST_KEPT;
            Night slot = slotAt(latest);
            if (count < 1 || slot == null) {
                return false;
            }
            night.copyFrom(slot);
            next = latest;
            count--;
            return true;
        }

        private Night slotAt(int i) {
            return i >= 0 && i < ring.length ? ring[i] : null;
        }
    }

    /** What was SEEN, TAILS SEEN, THE BOOK: each a list of pairs. */
    private static final class Notebook {
        static final int MOST_SEEN = 10;
        static final int MOST_TAILS = 6;
        static final int MOST_BOOK = 15;

        int seenCount;
        int tailCount;
        int bookCount;
        private final int[] seenMinutes;
        private final int[] seenMoves;
        private final int[] tailMinutes;
        private final int[] tailMoves;
        private final int[] bookEasts;
        private final int[] bookNorths;

        Notebook() {
            seenMinutes = new int[MOST_SEEN];
            seenMoves = new int[MOST_SEEN];
            tailMinutes = new int[MOST_TAILS];
            tailMoves = new int[MOST_TAILS];
            bookEasts = new int[MOST_BOOK];
            bookNorths = new int[MOST_BOOK];
        }

        void clear() {
            seenCount = 0;
            tailCount = 0;
            bookCount = 0;
        }

        boolean addSeen(int t, int move) {
            boolean hasRoom = putPair(seenMinutes, seenMoves, seenCount, t, move);
            seenCount += hasRoom ? 1 : 0;
            return hasRoom;
        }

        boolean addTail(int minutes, int move) {
            boolean hasRoom = putPair(tailMinutes, tailMoves, tailCount, minutes, move);
            tailCount += hasRoom ? 1 : 0;
            return hasRoom;
        }

        boolean addToBook(int east, int north) {
            boolean hasRoom = putPair(bookEasts, bookNorths, bookCount, east, north);
            bookCount += hasRoom ? 1 : 0;
            return hasRoom;
        }

        /** Whether all that was SEEN at a place of a worm of this length is so by this rate there. */
        boolean isWormFit(Mount mount, int length, int place, int rate) {
            for (int i = 0; i < seenCount; i++) {
                int t = entryAt(seenMinutes, i);
                if (placeOf(t, length) == place
                        && entryAt(seenMoves, i) != mount.clock + rate + mount.jumpAt(t)) {
                    return false;
                }
            }
            return true;
        }

        boolean isPeriod(Mount mount, int length) {
            for (int place = 0; place < length; place++) {
                boolean canBe = false;
                for (int v = -9; v <= 9 && !canBe; v++) {
                    canBe = isWormFit(mount, length, place, v);
                }
                if (!canBe) {
                    return false;
                }
            }
            return true;
        }

        boolean hasSeenPlaceOf(int t, int length) {
            for (int i = 0; i < seenCount; i++) {
                if (placeOf(entryAt(seenMinutes, i), length) == placeOf(t, length)) {
                    return true;
                }
            }
            return false;
        }

        boolean isAxisFit(int rate) {
            for (int i = 0; i < tailCount; i++) {
                if (rate * entryAt(tailMinutes, i) != entryAt(tailMoves, i)) {
                    return false;
                }
            }
            return true;
        }

        int firstWrong(int east, int north) {
            for (int i = 0; i < bookCount; i++) {
                if (entryAt(bookEasts, i) != east || entryAt(bookNorths, i) != north) {
                    return i;
                }
            }
            return NONE;
        }

        private static boolean putPair(int[] firsts, int[] seconds, int i, int first, int second) {
            if (i < 0 || i >= firsts.length || i >= seconds.length) {
                return false;
            }
            firsts[i] = first;
            seconds[i] = second;
            return true;
        }

        private static int entryAt(int[] row, int i) {
            return i >= 0 && i < row.length ? row[i] : 0;
        }

        private static int placeOf(int t, int length) {
            return length > 0 ? t % length : 0;
        }
    }

    /** THE SEED and what is drawn by it. */
    private static final class Draws {
        int value;

        Draws() {
        }

        int drawOf(int n) {
            value = (int) ((value * 1103515245L + 12345L) % 2147483648L);
            return n > 0 ? value / 65536 % n : 0;
        }
    }

    private static final class Image {
        boolean isKept;
        int seedThen;
        final Night kept;

        Image() {
            kept = new Night();
        }
    }
}
