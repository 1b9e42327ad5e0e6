import java.util.List;

/** Section 1 of "Terms", THE MOUNT, and promises 1 to 7. */
final class MountSentences {
    private static final int UNKNOWN = -1000000001, OUTSIDE = -1000000002, NOT = -1000000003, FULL = -1000000004;
    private static final String ALL_CLAUSES = "m10 7 60;w12,9,6,8;j9 129;s20 5;b2;";
    /** Seven letters: what comes behind it stands from place 7 on. */
    private static final String M = "m0 0 1;";
    private static final String NINE = "1,1,1,1,1,1,1,1,1";
    private static final String SIX = "s1 1;s1 1;s1 1;s1 1;s1 1;s1 1;";
    private static final int[] AS_UNTOLD = {0, 9, 9, 0, 1, -1, 99, 1, 0, 0, 0, 10000, 10000, 0, 0, 0, 0, 0, 0, 0, 0};

    private MountSentences() {
    }

    static void all() {
        lettersAtMost();
        clauseM();
        beyondLEitherWay();
        clauseW();
        wormComesRound();
        clauseJ();
        clauseS();
        clauseB();
        numbersAndBlanks();
        endOfTheText();
        lettersAtEachPlace();
        numbersOutOfBounds();
        again();
        emptyText();
        newObject();
        feed();
        mount();
        mountWithFault();
        fault();
        told();
        worm();
        star();
    }

    private static int mountOf(String text) {
        HeldOnCross x = new HeldOnCross();
        Check.feedAll(x, text);
        return x.mount();
    }

    private static void fine(String text, int stars) {
        HeldOnCross x = new HeldOnCross();
        Check.feedAll(x, text);
        Check.due("mount() of '" + text + "'", x.mount(), stars);
        Check.due("fault() of '" + text + "'", x.fault(), -1);
    }

    private static void faulty(String text, int number, int place) {
        HeldOnCross x = new HeldOnCross();
        Check.feedAll(x, text);
        Check.due("mount() of '" + text + "'", x.mount(), -10 - number);
        Check.due("fault() of '" + text + "'", x.fault(), place);
    }

    /** A number in a text: at its edges it is fine and told so, one beyond them it is not. */
    private static void bounds(String ahead, String behind, int least, int most, int what) {
        for (int v : new int[] {least, least + 1, most - 1, most}) {
            HeldOnCross x = new HeldOnCross();
            Check.feedAll(x, ahead + v + behind);
            Check.holds(ahead + v + behind + " is fine", x.mount() >= 0);
            Check.due("told(" + what + ") behind " + ahead + v + behind, x.told(what), v);
        }
        if (least > 0) {
            faulty(ahead + (least - 1) + behind, 2, ahead.length());
        }
        faulty(ahead + (most + 1) + behind, 2, ahead.length());
        faulty(ahead + 1000 + behind, 2, ahead.length());
        faulty(ahead + "0001" + behind, 2, ahead.length());
    }

    private static void lettersAtMost() {
        Doc.terms("1 THE MOUNT is told in a text (230 letters at most): clauses:");
        HeldOnCross x = new HeldOnCross();
        Check.feedAll(x, M + " ".repeat(222) + ";");
        Check.due("230 letters", x.told(9), 230);
        Check.due("mount() reads the last of them", x.mount(), -11);
        Check.due("fault()", x.fault(), 229);
        Check.feedAll(x, M + " ".repeat(223) + ";");
        Check.due("the 231st has not come", x.mount(), 0);
        Check.feedAll(x, "m0 0 1" + " ".repeat(223) + ";s9");
        Check.due("the last ends the clause", x.mount(), 0);
    }

    private static void clauseM() {
        Doc.terms("'m' C A L ';' (CLOCK C 0 .. 18, less 9: so much EAST a minute; AXIS A 0 .. 18, less 9: so much NORTH; "
            + "LOST beyond L either way, 1 .. 999; first, once)");
        bounds("m", " 9 99;", 0, 18, 1);
        bounds("m9 ", " 99;", 0, 18, 2);
        for (int v : new int[] {0, 9, 18}) {
            Check.due("CLOCK " + v, Check.mounted("m" + v + " 9 99;").minute(1), 10000 + v - 9);
            Check.due("AXIS " + v, Check.mounted("m9 " + v + " 99;").where(1, 1), 10000 + v - 9);
        }
        for (int limit : new int[] {1, 2, 998, 999}) {
            Check.due("L " + limit, Check.mounted("m9 9 " + limit + ";").told(3), limit);
        }
        faulty("m9 9 0;", 2, 5);
        faulty("m9 9 000;", 2, 5);
        faulty("m9 9 1000;", 2, 5);
        faulty("b1;" + M, 1, 0);
        faulty(M + M, 3, 7);
    }

    private static void beyondLEitherWay() {
        for (int limit : new int[] {1, 7, 999}) {
            for (int[] way : new int[][] {{1, 0}, {-1, 0}, {0, 1}, {0, -1}}) {
                HeldOnCross x = Check.mounted("m9 9 " + limit + ";");
                for (int left = limit; left > 0; left -= Math.min(left, 99)) {
                    int times = Math.min(left, 99);
                    x.press(way[0] * times, way[1] * times);
                    x.minute(1);
                }
                Check.duePlace("at L", x, limit * way[0], limit * way[1]);
                Check.due("not LOST at L", x.told(13), 0);
                x.press(way[0], way[1]);
                x.minute(1);
                Check.due("LOST one beyond L", x.told(13), 1);
            }
        }
    }

    private static void clauseW() {
        Doc.terms("'w' V {',' V} ';' (THE WORM: 1 to 9 numbers, 0 .. 18, less 9: minute t has the one of t left over by how many; "
            + "one 0 untold; once)");
        for (int length = 1; length <= 9; length++) {
            HeldOnCross x = Check.mounted("m9 9 99;w" + NINE.substring(0, 2 * length - 1) + ";");
            Check.due("so many numbers", x.told(4), length);
            Check.due("the last of them", x.worm(length - 1), 1);
            Check.due("none behind it", x.worm(length), OUTSIDE);
        }
        faulty(M + "w;", 1, 8);
        faulty(M + "w" + NINE + ",1;", 1, 25);
        faulty(M + "w19;", 2, 8);
        faulty(M + "w1,1,1,1,1,1,1,1,19;", 2, 24);
        faulty(M + "w1,0000;", 2, 10);
        Check.due("0 is 9 westward", Check.mounted("m9 9 99;w0;").minute(1), 9991);
        Check.due("18 is 9 eastward", Check.mounted("m9 9 99;w18;").minute(1), 10009);
        HeldOnCross untold = Check.mounted("m9 9 99;");
        Check.due("untold: one", untold.told(4), 1);
        Check.due("untold: a 0", untold.worm(0), 9);
        Check.due("untold: no move", untold.minute(99), 10000);
        faulty(M + "w1;w2;", 3, 10);
    }

    private static void wormComesRound() {
        HeldOnCross x = Check.mounted("m9 9 999;w10,11,12,13,14,15,16,17,18;");
        Check.due("minutes 0 to 8", x.minute(9), 10045);
        Check.due("minute 9 has the first", x.minute(1), 10046);
        Check.due("minute 10 has the second", x.minute(1), 10048);
        HeldOnCross one = Check.mounted("m9 9 99;w11;");
        Check.due("one number for every minute", one.minute(9), 10018);
        // 9000 is 5 and 1285 times 7
        HeldOnCross late = Check.mounted("m9 9 99;w10,8,10,8,10,8,9;");
        for (int i = 0; i < 90; i++) {
            late.minute(99);
        }
        late.minute(90);
        Check.duePlace("at minute 9000", late, 1, 0);
        Check.due("minute 9000 has the sixth", late.minute(1), 10000);
    }

    private static void clauseJ() {
        Doc.terms("'j' T S ';' (at minute T, 0 .. 999, a JUMP of S 0 .. 198, less 99, EAST; none untold; once)");
        bounds("m9 9 99;j", " 100;", 0, 999, 5);
        bounds("m9 9 99;j5 ", ";", 0, 198, 6);
        Check.due("0 is 99 westward", Check.mounted("m9 9 99;j0 0;").minute(1), 9901);
        Check.due("198 is 99 eastward", Check.mounted("m9 9 99;j0 198;").minute(1), 10099);
        HeldOnCross x = Check.mounted("m9 9 99;j999 104;");
        for (int i = 0; i < 10; i++) {
            x.minute(99);
        }
        x.minute(9);
        Check.duePlace("ahead of minute 999", x, 0, 0);
        x.minute(1);
        Check.duePlace("behind minute 999", x, 5, 0);
        x.minute(99);
        Check.duePlace("once", x, 5, 0);
        HeldOnCross untold = Check.mounted("m9 9 99;");
        Check.due("untold: no minute", untold.told(5), -1);
        Check.due("untold: no JUMP ever", untold.where(999, 0), 10000);
        faulty(M + "j1 1;j1 1;", 3, 12);
    }

    private static void clauseS() {
        Doc.terms("'s' R B ';' (6 STARS of the field at most: R HAIRS from the middle, 0 .. 99; LIGHT B 1 .. 9)");
        fine(M, 0);
        fine(M + SIX, 6);
        faulty(M + SIX + "s1 1;", 3, 37);
        for (int[] star : new int[][] {{0, 1}, {0, 9}, {99, 1}, {99, 9}}) {
            HeldOnCross x = Check.mounted(M + "s" + star[0] + " " + star[1] + ";");
            Check.due("R", x.star(0, 0), star[0]);
            Check.due("B", x.star(0, 1), star[1]);
        }
        faulty(M + "s100 1;", 2, 8);
        faulty(M + "s1 0;", 2, 10);
        faulty(M + "s1 10;", 2, 10);
    }

    private static void clauseB() {
        Doc.terms("'b' G ';' (BUTTONS move G a press, 1 .. 9; 1 untold; once).");
        bounds("m9 9 99;b", ";", 1, 9, 7);
        for (int g : new int[] {1, 9}) {
            HeldOnCross x = Check.mounted("m9 9 99;b" + g + ";");
            x.press(2, -3);
            x.minute(1);
            Check.duePlace("2 and -3 presses of " + g, x, 2 * g, -3 * g);
        }
        HeldOnCross untold = Check.mounted("m9 9 99;");
        Check.due("untold", untold.told(7), 1);
        untold.press(1, 0);
        Check.due("untold: 1 a press", untold.minute(1), 10001);
        faulty(M + "b1;b1;", 3, 10);
    }

    private static void numbersAndBlanks() {
        Doc.terms("NUMBERS have one to three figures; a word is one letter; blanks (32) may stand anywhere but within NUMBERS; "
            + "two NUMBERS side by side need one.");
        for (String clock : new String[] {"7", "07", "007"}) {
            Check.due("CLOCK " + clock, Check.mounted("m" + clock + " 9 99;").told(1), 7);
        }
        faulty("m0007 9 99;", 2, 1);
        faulty("m9 9 0099;", 2, 5);
        faulty("mm9 9 99;", 1, 1);
        faulty(M + "ww1;", 1, 8);
        fine("   m   0   0   1   ;   w   1   ,   2   ;   j   1   1   ;   s   1   1   ;   b   1   ;   ", 1);
        fine("m0 0 1;w1,2;j1 1;s1 1;b1;", 1);
        faulty("m1 0 1 1;", 1, 7);
        faulty(M + "b1 0;", 1, 10);
        faulty(M + "w1 0;", 1, 10);
        faulty("m0 01;", 1, 5);
        faulty("m001;", 1, 4);
        faulty(M + "s11;", 1, 10);
        for (char other : new char[] {0, 9, 10, 13, 31, 33, 160}) {
            faulty("m0" + other + "0 1;", 1, 2);
            faulty(M + other, 1, 7);
        }
    }

    /** A text that ends ahead of a clause's ';' has its FAULT behind the last letter, whatever that is. */
    private static void endOfTheText() {
        Doc.terms("FAULTS, at the first letter that has one (the end at the text's length), of these the least:");
        for (int length = 1; length <= ALL_CLAUSES.length(); length++) {
            String text = ALL_CLAUSES.substring(0, length);
            if (text.endsWith(";")) {
                Check.holds("mount() of '" + text + "'", mountOf(text) >= 0);
            } else {
                faulty(text, 1, length);
                faulty(text + "   ", 1, length + 3);
                faulty(text + "x", 1, length);
                faulty(text + "x9999m", 1, length);
            }
        }
        faulty("m0 0 1" + " ".repeat(224), 1, 230);
        // what a longer text had there is not read again
        for (int length = 1; length < ALL_CLAUSES.length(); length++) {
            HeldOnCross x = Check.mounted(ALL_CLAUSES);
            String text = ALL_CLAUSES.substring(0, length);
            boolean isWhole = text.endsWith(";");
            int stars = text.indexOf('s') >= 0 ? 1 : 0;
            Check.feedAll(x, text);
            Check.due("mount() of '" + text + "' behind a longer text", x.mount(), isWhole ? stars : -11);
            Check.due("fault()", x.fault(), isWhole ? -1 : length);
        }
        // the first letter counts, whatever comes behind it
        faulty("m19 0 0;m", 2, 1);
        faulty("m0 19 x", 2, 3);
        faulty("mx 19 0;", 1, 1);
        faulty(M + "b1;b99;x", 3, 10);
        // of several at one letter the least
        faulty("w9999;", 1, 0);
        faulty(M + "9999;", 1, 7);
        faulty("m0 0 1 9999;", 1, 7);
        faulty(M + "wm", 1, 8);
        faulty(M + "b1;jb", 1, 11);
        faulty(M + SIX + "bs", 1, 38);
    }

    private static void lettersAtEachPlace() {
        Doc.terms("1 it cannot stand there (a letter that is no word, another word first than 'm'; a tenth V: at its ',').");
        for (char c = 0; c <= 255; c++) {
            boolean isFigure = c >= '0' && c <= '9';
            // first of all
            if (c == ' ') {
                fine("" + c, 0);
            } else {
                faulty("" + c, 1, c == 'm' ? 1 : 0);
            }
            // where a word is due
            if (c == ' ') {
                fine(M + c, 0);
            } else {
                faulty(M + c, c == 'm' ? 3 : 1, "wjsb".indexOf(c) >= 0 ? 8 : 7);
            }
            // where a number is due
            if (isFigure) {
                fine("m" + c + " 0 1;", 0);
            } else {
                faulty("m" + c + " 0 1;", 1, c == ' ' ? 6 : 1);
            }
            // where ';' is due
            if (c == ';') {
                fine("m0 0 1" + c, 0);
            } else {
                faulty("m0 0 1" + c, 1, c == ' ' || isFigure ? 7 : 6);
            }
            // where ',' or ';' is due
            if (c == ';') {
                fine(M + "w1" + c, 0);
            } else if (c == '9') {
                faulty(M + "w1" + c, 2, 8);
            } else {
                faulty(M + "w1" + c, 1, c == ' ' || c == ',' || isFigure ? 10 : 9);
            }
        }
    }

    private static void numbersOutOfBounds() {
        faulty(M + "w" + NINE + ",", 1, 25);
        faulty(M + "w" + NINE + " ,1;", 1, 26);
        faulty(M + "w" + NINE + ",9999;", 1, 25);
        fine(M + "w" + NINE + ";", 0);
        Doc.terms("2 a NUMBER of four figures or more, or out of its bounds (at its first).");
        faulty("m0000 0 1;", 2, 1);
        faulty("m  0000 0 1;", 2, 3);
        faulty("m1234", 2, 1);
        faulty("m99999999999999999999 0 1;", 2, 1);
        faulty("m4294967296 0 1;", 2, 1);
        faulty("m18446744073709551616 0 1;", 2, 1);
        faulty("m" + "0".repeat(229), 2, 1);
        faulty("m0 0 1;w4294967297;", 2, 8);
        faulty("m19", 2, 1);
        faulty("m 019 0 1;", 2, 2);
    }

    private static void again() {
        Doc.terms("3 'm', 'w', 'j', 'b' again, a seventh 's' (at it).");
        String all = ALL_CLAUSES;
        for (String word : new String[] {"m", "w", "j", "b"}) {
            faulty(all + word, 3, all.length());
            faulty(all + "  " + word + "9", 3, all.length() + 2);
        }
        fine(all + "s1 1;", 2);
        faulty(M + SIX + "s", 3, 37);
        faulty(M + SIX + "w1;b1; s1 1;", 3, 44);
        fine(M + "b1;j1 1;w1;", 0);
    }

    private static void emptyText() {
        Doc.terms("An empty text (or one of blanks alone) has no FAULT: no MOUNT.");
        for (String text : new String[] {"", " ", " ".repeat(230)}) {
            HeldOnCross x = Check.mounted("m10 7 60;w12,9;j9 129;s20 5;b2;");
            x.minute(2);
            Check.feedAll(x, text);
            Check.due("mount()", x.mount(), 0);
            Check.due("fault()", x.fault(), -1);
            for (int what = 0; what < AS_UNTOLD.length; what++) {
                Check.due("told(" + what + ")", x.told(what), AS_UNTOLD[what]);
            }
            Check.due("minute(1)", x.minute(1), NOT);
            Check.due("star(0, 0)", x.star(0, 0), UNKNOWN);
        }
    }

    private static void newObject() {
        Doc.promise(1, "No MOUNT: CLOCK, AXIS, L are 0, all else as if untold.");
        HeldOnCross x = new HeldOnCross();
        for (int what = 0; what < AS_UNTOLD.length; what++) {
            Check.due("told(" + what + ")", x.told(what), AS_UNTOLD[what]);
        }
        Check.due("fault()", x.fault(), -1);
        Check.due("worm(0)", x.worm(0), 9);
        Check.due("worm(1)", x.worm(1), OUTSIDE);
        Check.due("star(0, 0)", x.star(0, 0), UNKNOWN);
        Check.due("undo()", x.undo(), NOT);
        Check.due("seed(0)", x.seed(0), 0);
        Check.due("goBack(0)", x.goBack(0), NOT);
        Check.due("goBack(1)", x.goBack(1), NOT);
        Check.due("guide(1)", x.guide(1), -1);
    }

    private static void feed() {
        Doc.promise(2, "One letter (a number 0 .. 255) comes behind THE TEXT: how many it has. OUTSIDE, FULL (230).");
        HeldOnCross x = new HeldOnCross();
        Check.due("feed(-1)", x.feed(-1), OUTSIDE);
        Check.due("feed(256)", x.feed(256), OUTSIDE);
        Check.due("feed(0)", x.feed(0), 1);
        Check.due("feed(255)", x.feed(255), 2);
        for (int i = 3; i <= 230; i++) {
            Check.due("feed(32)", x.feed(32), i);
        }
        Check.due("the 231st", x.feed(32), FULL);
        Check.due("the 231st, OUTSIDE", x.feed(256), OUTSIDE);
        Check.due("230 still", x.told(9), 230);
        x.mount();
        Check.due("room again", x.feed(32), 1);
    }

    private static void mount() {
        Doc.promise(3, "THE TEXT (it is empty then, with a FAULT, too) becomes THE MOUNT (MINUTE 0, a new PLATE; nothing SEEN, "
            + "no TAILS, no BOOK; IMAGES, what could be undone are gone; THE SEED stays): how many STARS;");
        HeldOnCross x = States.busy();
        x.shut(false);
        x.mount();
        Check.due("with a FAULT, too", x.told(9), 0);
        Check.feedAll(x, "m11 9 70;s7 5;s8 8;s9 9;");
        Check.due("mount()", x.mount(), 3);
        int[] due = {1, 11, 9, 70, 1, -1, 99, 1, 3, 0, 0, 10000, 10000, 0, 0, 0, 0, 0, 0, 0, 0};
        for (int what = 0; what < due.length; what++) {
            Check.due("told(" + what + ")", x.told(what), due[what]);
        }
        Check.due("undo()", x.undo(), NOT);
        Check.due("goBack(0)", x.goBack(0), NOT);
        Check.due("goBack(1)", x.goBack(1), NOT);
        Check.due("worm(0)", x.worm(0), 9);
        Check.due("star(3, 0)", x.star(3, 0), UNKNOWN);
        Check.due("axes()", x.axes(), 524287);
        Check.due("judge()", x.judge(), -1);
        Check.due("nothing waits", x.where(1, 0), 10002);
        HeldOnCross seeded = Check.mounted(M);
        seeded.seed(4321);
        Check.feedAll(seeded, M);
        seeded.mount();
        Check.due("THE SEED", seeded.seed(1), 4321);
        HeldOnCross lost = States.lateAndLost();
        Check.feedAll(lost, M);
        Check.due("mount() of one LOST above 9000", lost.mount(), 0);
        Check.due("MINUTE 0", lost.told(10), 0);
        Check.due("not LOST", lost.told(13), 0);
    }

    private static void mountWithFault() {
        Doc.promise(3, "-10 less the number of its FAULT (all else is as it was).");
        String[] texts = {"x", "m19 0 1;", "m0 0 1;m", "m1 2 3;w4,5;j6 7;s8 9;b9;s99 99;"};
        int[] due = {-11, -12, -13, -12};
        int[] places = {0, 1, 7, 29};
        List<Integer> before = Whole.of(States.busyButText());
        for (int i = 0; i < texts.length; i++) {
            HeldOnCross x = States.busyButText();
            Check.feedAll(x, texts[i]);
            Check.due("mount() of '" + texts[i] + "'", x.mount(), due[i]);
            Check.due("fault()", x.fault(), places[i]);
            List<Integer> behind = Whole.of(x);
            behind.set(Whole.FAULT, before.get(Whole.FAULT));
            Check.holds("all else is as it was", behind.equals(before));
        }
    }

    private static void fault() {
        Doc.promise(4, "The place (from 0 on) of the letter that has the FAULT of the latest mount(); NONE.");
        HeldOnCross x = new HeldOnCross();
        Check.due("no mount()", x.fault(), -1);
        x.feed('x');
        Check.due("not mounted yet", x.fault(), -1);
        x.mount();
        Check.due("the first letter", x.fault(), 0);
        Check.feedAll(x, M);
        Check.due("till the next mount()", x.fault(), 0);
        x.mount();
        Check.due("no FAULT", x.fault(), -1);
        Check.feedAll(x, "m0 0 1" + " ".repeat(223) + "x");
        x.mount();
        Check.due("the last letter", x.fault(), 229);
        Check.feedAll(x, "m0 0 1" + " ".repeat(224));
        x.mount();
        Check.due("behind the last", x.fault(), 230);
        x.mount();
        Check.due("an empty text", x.fault(), -1);
    }

    private static void told() {
        Doc.promise(5, "0 1 there is a MOUNT, 0 not, 1 CLOCK, 2 AXIS (both and 9), 3 L, 4 how long THE WORM is, 5 minute of the JUMP (NONE), "
            + "6 its size, and 99, 7 G, 8 STARS, 9 letters of THE TEXT, 10 MINUTES, 11 EAST, 12 NORTH (both and 10000), 13 1 LOST, 0 not, "
            + "14 1 SHUT, 0 not, 15 LIGHT minutes, 16 TAIL, 17 how many were SEEN, 18 TAILS SEEN, 19 entries of THE BOOK, "
            + "20 how many can be undone. OUTSIDE.");
        HeldOnCross x = Check.mounted("m12 4 99;w11,8;j2 109;s5 3;s9 9;b7;");
        x.minute(4);
        x.shut(true);
        x.see(1, 1);
        x.tail(0, 1, 1);
        x.tail(0, 1, 1);
        x.write(1, 1);
        x.write(1, 1);
        x.write(1, 1);
        Check.feedAll(x, "m10");
        int[] due = {1, 12, 4, 99, 2, 2, 109, 7, 2, 3, 4, 10024, 9980, 0, 1, 4, 19, 1, 2, 3, 2};
        for (int what = 0; what < due.length; what++) {
            Check.due("told(" + what + ")", x.told(what), due[what]);
        }
        x.press(99, 0);
        x.minute(1);
        Check.due("told(13)", x.told(13), 1);
        Check.due("told(-1)", x.told(-1), OUTSIDE);
        Check.due("told(21)", x.told(21), OUTSIDE);
        Check.due("told(least int)", x.told(Integer.MIN_VALUE), OUTSIDE);
        Check.due("told(greatest int)", x.told(Integer.MAX_VALUE), OUTSIDE);
        HeldOnCross full = States.full();
        int[] most = {230, 10, 6, 15};
        int[] what = {9, 17, 18, 19};
        for (int i = 0; i < what.length; i++) {
            Check.due("told(" + what[i] + ") when FULL", full.told(what[i]), most[i]);
        }
    }

    private static void worm() {
        Doc.promise(6, "THE WORM at a place (0 to its length less 1), and 9. OUTSIDE.");
        HeldOnCross x = Check.mounted("m9 9 99;w0,18,9,1,2,3,4,5,6;");
        int[] due = {0, 18, 9, 1, 2, 3, 4, 5, 6};
        for (int i = 0; i < due.length; i++) {
            Check.due("worm(" + i + ")", x.worm(i), due[i]);
        }
        Check.due("worm(-1)", x.worm(-1), OUTSIDE);
        Check.due("worm(9)", x.worm(9), OUTSIDE);
        HeldOnCross shorter = Check.mounted("m9 9 99;w0,18,9;");
        Check.feedAll(shorter, "m9 9 99;w5,4;");
        shorter.mount();
        Check.due("worm(1)", shorter.worm(1), 4);
        Check.due("worm(2) of a longer one ahead of it", shorter.worm(2), OUTSIDE);
    }

    private static void star() {
        Doc.promise(7, "Of a STAR: what = 0 R, 1 LIGHT. UNKNOWN, OUTSIDE.");
        HeldOnCross x = Check.mounted("m9 9 99;s0 1;s99 9;s3 4;s5 6;s7 8;s11 2;");
        int[][] due = {{0, 1}, {99, 9}, {3, 4}, {5, 6}, {7, 8}, {11, 2}};
        for (int s = 0; s < due.length; s++) {
            Check.due("star(" + s + ", 0)", x.star(s, 0), due[s][0]);
            Check.due("star(" + s + ", 1)", x.star(s, 1), due[s][1]);
        }
        Check.due("star(-1, 0)", x.star(-1, 0), UNKNOWN);
        Check.due("star(6, 0)", x.star(6, 0), UNKNOWN);
        Check.due("star(6, 2)", x.star(6, 2), UNKNOWN);
        Check.due("star(5, 2)", x.star(5, 2), OUTSIDE);
        Check.due("star(0, -1)", x.star(0, -1), OUTSIDE);
    }
}
