/** Promise by promise: ordinary inputs, the edges that the document names, and wrong inputs. */
public final class PromisesTest {
    private static final int BEYOND = -1000000001;
    private static final int FULL = -1000000002;
    private static final int KIND = -1000000003;
    private static final int NONE = -1000000004;
    private static final int MISSING = -1000000006;
    private static final int SIZE = -1000000007;

    private static final int LEAST = Integer.MIN_VALUE;
    private static final int MOST = Integer.MAX_VALUE;

    private static int promise;
    private static int asked;
    private static int wrong;

    private static void due(String call, long got, long want) {
        asked++;
        if (got != want) {
            wrong++;
            System.out.println("promise " + promise + ": " + call + " answered " + got + ", due is " + want);
        }
    }

    private static int feedAll(HatCongress x, String text) {
        int has = x.count(1);
        for (int i = 0; i < text.length(); i++) {
            has = x.feed(text.charAt(i), 1);
        }
        return has;
    }

    private static void text(HatCongress x, String text, int want) {
        due("feed of \"" + text + "\"", feedAll(x, text), text.length());
        due("lobby() of \"" + text + "\"", x.lobby(), want);
        due("count(1) behind lobby() of \"" + text + "\"", x.count(1), 0);
    }

    private static HatCongress withHats(int kind, int... views) {
        HatCongress x = new HatCongress();
        for (int view : views) {
            x.hat(kind, view);
        }
        return x;
    }

    private static void newObject() {
        promise = 1;
        HatCongress other = withHats(0, 255);
        other.holds(0, 1);
        other.image();
        other.sheet(0, 8, 3);
        other.feed(97, 1);
        other.says(9, 9);
        HatCongress x = new HatCongress();
        int[] now = {0, 0, 170, 0, 0, 0, 0, 85};
        for (int what = 0; what < now.length; what++) {
            due("now(" + what + ")", x.now(what), now[what]);
        }
        for (int what = 0; what < 4; what++) {
            due("count(" + what + ")", x.count(what), 0);
        }
        due("status(-1)", x.status(-1), 0);
        due("undo()", x.undo(), NONE);
        due("tear()", x.tear(), 0);
        for (int s = 0; s < 4; s++) {
            due("write(" + s + ", 0, 1)", x.write(s, 0, 1), MISSING);
        }
        due("of(0, 0)", x.of(0, 0), BEYOND);
    }

    private static void holds() {
        promise = 2;
        HatCongress x = new HatCongress();
        due("holds(0, 3)", x.holds(0, 3), 170);
        due("holds(0, 255)", x.holds(0, 255), 3);
        due("holds(1, 255)", x.holds(1, 255), 0);
        due("holds(1, 0)", x.holds(1, 0), 255);
        due("holds(1, 5)", x.holds(1, 5), 0);
        due("now(2)", x.now(2), 255);
        due("now(3)", x.now(3), 5);
        int[][] bad = {{-1, 0}, {2, 0}, {0, -1}, {0, 256}, {1, -1}, {1, 256}, {LEAST, MOST}, {MOST, LEAST}};
        for (int[] b : bad) {
            due("holds(" + b[0] + ", " + b[1] + ")", x.holds(b[0], b[1]), BEYOND);
        }
        due("now(2)", x.now(2), 255);
        due("now(3)", x.now(3), 5);
        due("status(0)", x.status(0), bad.length);
    }

    private static void now() {
        promise = 3;
        HatCongress x = new HatCongress();
        x.hat(0, 1);
        x.hat(3, 1);
        x.hat(1, 1);
        x.hat(0, 0);
        x.hat(4, 0);
        due("now(5)", x.now(5), 5);
        due("now(4), the topper says nothing", x.now(4), 3);
        due("now(6)", x.now(6), 31);
        x.set(1, 2, 3);
        due("now(4), the topper speaks", x.now(4), 6);
        x.set(0, 5, 0);
        x.set(4, 5, 0);
        due("now(5), without 4", x.now(5), 1);
        x.set(3, 5, 0);
        due("now(4), without 0", x.now(4), 5);
        due("now(5), without 3 and 4", x.now(5), 0);
        x.set(3, 5, 1);
        due("now(6)", x.now(6), 14);
        due("now(0)", x.now(0), 0);
        x.sessions(10);
        due("now(0)", x.now(0), 10);
        due("now(1)", x.now(1), 2);
        x.holds(0, 240);
        x.holds(1, 60);
        due("now(2)", x.now(2), 240);
        due("now(3)", x.now(3), 60);
        due("now(7)", x.now(7), 51);
        HatCongress full = withHats(0, 0, 0, 0, 0, 0, 0, 0, 0, 0, 0);
        due("now(6) of ten", full.now(6), 1023);
        for (int what : new int[] {-1, 8, LEAST, MOST}) {
            due("now(" + what + ")", x.now(what), BEYOND);
        }
    }

    private static void hat() {
        promise = 4;
        HatCongress x = new HatCongress();
        due("hat(5, 255)", x.hat(5, 255), 0);
        due("hat(0, 0)", x.hat(0, 0), 1);
        int[] first = {5, 255, 0, 0, 50, 1};
        for (int what = 0; what < first.length; what++) {
            due("of(0, " + what + ")", x.of(0, what), first[what]);
        }
        int[][] bad = {{-1, 0}, {6, 0}, {0, -1}, {0, 256}, {LEAST, 0}, {0, MOST}};
        for (int[] b : bad) {
            due("hat(" + b[0] + ", " + b[1] + ")", x.hat(b[0], b[1]), BEYOND);
        }
        due("count(0)", x.count(0), 2);
        for (int h = 2; h < 10; h++) {
            due("hat(1, 7)", x.hat(1, 7), h);
        }
        due("hat(6, 0), and full", x.hat(6, 0), BEYOND);
        due("hat(0, 0), an 11th", x.hat(0, 0), FULL);
        due("count(0)", x.count(0), 10);
    }

    private static void of() {
        promise = 5;
        HatCongress x = withHats(0, 9);
        // kind, faith, session, then weighs, learns, stirs
        int[][] rows = {
            {0, 49, 0, 1, 0, 5}, {0, 50, 0, 1, 1, 5}, {0, 50, 1, 1, 1, 5},
            {1, 0, 0, 1, 1, 3}, {1, 49, 1, 1, 1, 3}, {1, 50, 0, 2, 1, 3}, {1, 99, 1, 2, 1, 3},
            {2, 29, 0, 1, 0, 10}, {2, 50, 1, 1, 1, 10}, {2, 49, 2, 1, 0, 10},
            {3, 99, 0, 3, 0, 1}, {3, 0, 3, 3, 0, 1},
            {4, 0, 0, 2, 1, 3}, {4, 49, 2, 2, 1, 3}, {4, 50, 1, 4, 0, 3}, {4, 99, 2, 4, 1, 3},
            {5, 49, 0, 2, 0, 3}, {5, 50, 1, 1, 1, 3}, {5, 50, 2, 1, 1, 3}, {5, 99, 3, 2, 1, 3},
        };
        for (int[] r : rows) {
            x = withHats(r[0], 9);
            x.set(0, 5, 0);
            if (r[2] > 0) {
                x.sessions(r[2]);
            }
            x.set(0, 4, r[1]);
            String one = " of kind " + r[0] + ", faith " + r[1] + ", session " + r[2];
            due("of(0, 6)" + one, x.of(0, 6), r[3]);
            due("of(0, 7)" + one, x.of(0, 7), r[4]);
            due("of(0, 8)" + one, x.of(0, 8), r[5]);
        }
        x.set(0, 2, 11);
        x.set(0, 3, 12);
        int[] traits = {5, 9, 11, 12, 99, 0};
        for (int what = 0; what < traits.length; what++) {
            due("of(0, " + what + ")", x.of(0, what), traits[what]);
        }
        for (int[] b : new int[][] {{-1, 0}, {1, 0}, {0, -1}, {0, 9}, {10, 0}, {MOST, MOST}, {LEAST, LEAST}}) {
            due("of(" + b[0] + ", " + b[1] + ")", x.of(b[0], b[1]), BEYOND);
        }
    }

    private static void says() {
        promise = 6;
        // kind, right, wrong, faith, question, then what it says with VIEW 10100101 and HELD 00111100
        int[][] rows = {
            {0, 0, 9, 0, 0, 1}, {0, 0, 9, 0, 1, 0}, {0, 0, 0, 99, 7, 1},
            {1, 1, 1, 50, 0, 1}, {1, 1, 1, 50, 1, 0}, {1, 1, 2, 50, 0, 0}, {1, 1, 2, 50, 1, 1}, {1, 2, 1, 0, 7, 1},
            {2, 0, 0, 30, 0, 1}, {2, 0, 0, 29, 0, 0}, {2, 0, 0, 30, 3, 0}, {2, 0, 0, 29, 3, 1}, {2, 0, 5, 0, 7, 0},
            {3, 0, 0, 50, 0, -1}, {3, 2, 0, 50, 0, -1}, {3, 3, 0, 50, 0, 1}, {3, 3, 0, 50, 1, 0}, {3, 0, 1, 50, 0, 1},
            {4, 1, 1, 1, 0, 1}, {4, 1, 2, 1, 0, 0}, {4, 1, 2, 1, 1, 1}, {4, 1, 1, 0, 0, -1}, {4, 0, 2, 0, 1, -1},
            {5, 0, 0, 30, 0, 1}, {5, 0, 0, 29, 0, 0}, {5, 0, 0, 29, 3, 1}, {5, 0, 0, 0, 7, 1}, {5, 0, 0, 99, 7, 1},
        };
        for (int[] r : rows) {
            HatCongress x = withHats(r[0], 165);
            x.holds(1, 60);
            x.set(0, 2, r[1]);
            x.set(0, 3, r[2]);
            x.set(0, 4, r[3]);
            x.set(0, 5, r[4] % 2);
            due("says(0, " + r[4] + ") of kind " + r[0] + " right " + r[1] + " wrong " + r[2] + " faith " + r[3],
                x.says(0, r[4]), r[5]);
        }
        HatCongress beret = withHats(5, 0);
        due("says(0, 7) of a beret with no view", beret.says(0, 7), 1);
        for (int[] b : new int[][] {{-1, 0}, {1, 0}, {0, -1}, {0, 8}, {LEAST, 0}, {0, MOST}}) {
            due("says(" + b[0] + ", " + b[1] + ")", beret.says(b[0], b[1]), BEYOND);
        }
    }

    private static void set() {
        promise = 7;
        HatCongress x = withHats(0, 7, 8);
        int[] was = {0, 7, 0, 0, 50, 1};
        int[] most = {0, 255, 9999, 9999, 99, 1};
        for (int what = 1; what <= 5; what++) {
            String call = "set(0, " + what + ", ";
            due(call + most[what] + ")", x.set(0, what, most[what]), was[what]);
            due(call + (most[what] + 1) + ")", x.set(0, what, most[what] + 1), BEYOND);
            due(call + "-1)", x.set(0, what, -1), BEYOND);
            due("of(0, " + what + ")", x.of(0, what), most[what]);
            due(call + "0)", x.set(0, what, 0), most[what]);
            due("of(0, " + what + ")", x.of(0, what), 0);
            due("of(1, " + what + ")", x.of(1, what), what == 1 ? 8 : was[what]);
        }
        for (int[] b : new int[][] {{-1, 1}, {2, 1}, {0, 0}, {0, 6}, {0, -1}, {LEAST, 1}, {0, MOST}}) {
            due("set(" + b[0] + ", " + b[1] + ", 0)", x.set(b[0], b[1], 0), BEYOND);
        }
    }

    private static void turn() {
        promise = 8;
        HatCongress x = withHats(0, 7);
        x.set(0, 2, 4);
        x.set(0, 3, 5);
        x.set(0, 4, 6);
        due("turn(0, 5)", x.turn(0, 5), 0);
        due("turn(0, 3)", x.turn(0, 3), 5);
        due("turn(0, 3)", x.turn(0, 3), 3);
        due("turn(0, 0)", x.turn(0, 0), 3);
        due("turn(0, 3)", x.turn(0, 3), 0);
        int[] traits = {3, 7, 4, 5, 6, 1};
        for (int what = 0; what < traits.length; what++) {
            due("of(0, " + what + ")", x.of(0, what), traits[what]);
        }
        for (int[] b : new int[][] {{-1, 0}, {1, 0}, {0, -1}, {0, 6}, {MOST, 0}, {0, LEAST}}) {
            due("turn(" + b[0] + ", " + b[1] + ")", x.turn(b[0], b[1]), BEYOND);
        }
        due("of(0, 0)", x.of(0, 0), 3);
    }

    private static void as() {
        promise = 9;
        String[] may = {"100000", "110000", "101000", "100100", "110010", "101001"};
        for (int own = 0; own < 6; own++) {
            HatCongress x = withHats(own, 40 + own);
            for (int kind = 0; kind < 6; kind++) {
                due("as(0, " + kind + ") of kind " + own, x.as(0, kind),
                    may[own].charAt(kind) == '1' ? 40 + own : KIND);
            }
            for (int[] b : new int[][] {{-1, 0}, {1, 0}, {0, -1}, {0, 6}, {MOST, MOST}}) {
                due("as(" + b[0] + ", " + b[1] + ")", x.as(b[0], b[1]), BEYOND);
            }
        }
    }

    private static void sessions() {
        promise = 10;
        HatCongress x = withHats(0, 0);
        due("sessions(8): all it says is no", x.sessions(8), 0);
        int[] after = {0, 170, 4, 4, 50, 1};
        for (int what = 0; what < after.length; what++) {
            due("of(0, " + what + ")", x.of(0, what), after[what]);
        }
        due("sessions(8): it has learned", x.sessions(8), 170);
        due("of(0, 2)", x.of(0, 2), 12);
        due("of(0, 4)", x.of(0, 4), 90);
        due("sessions(100)", x.sessions(100), 170);
        due("of(0, 4), held to 99", x.of(0, 4), 99);
        due("now(0)", x.now(0), 116);
        for (int n : new int[] {0, -1, 101, LEAST, MOST}) {
            due("sessions(" + n + ")", x.sessions(n), BEYOND);
        }
        due("now(0)", x.now(0), 116);
    }

    private static void lastSession() {
        promise = 10;
        // No run of 512 calls comes so far; past them the document leaves it free, and this is its plain sense.
        HatCongress x = new HatCongress();
        for (int i = 0; i < 999; i++) {
            x.sessions(100);
        }
        due("sessions(100)", x.sessions(100), -1000000005);
        due("now(0)", x.now(0), 99900);
        due("sessions(99)", x.sessions(99), 0);
        due("sessions(1)", x.sessions(1), -1000000005);
        due("sessions(0)", x.sessions(0), BEYOND);
        due("now(0)", x.now(0), 99999);
        due("status(4)", x.status(4), 2);
    }

    private static void sessionOfMany() {
        promise = 10;
        HatCongress tie = withHats(0, 255, 0);
        tie.holds(1, 90);
        due("sessions(8): even, so what it held", tie.sessions(8), 90);
        // The cap with little faith says what was held ahead of the session, so it is even.
        HatCongress cap = withHats(0, 255);
        cap.hat(2, 255);
        cap.set(1, 4, 0);
        due("sessions(1): the cap says what was held", cap.sessions(1), 0);
        due("of(1, 2)", cap.of(1, 2), 1);
        due("of(1, 4)", cap.of(1, 4), 10);
        due("of(0, 3)", cap.of(0, 3), 1);
        // One that is off neither counts nor is judged; one that says nothing isn't judged either.
        HatCongress off = withHats(0, 255);
        off.hat(3, 255);
        off.set(0, 5, 0);
        due("sessions(3)", off.sessions(3), 0);
        due("count(2)", off.count(2), 0);
        due("count(3)", off.count(3), 0);
        due("of(0, 4)", off.of(0, 4), 50);
        due("of(1, 4)", off.of(1, 4), 50);
        // A topper weighs more than two hats, and does not learn.
        HatCongress topper = withHats(0, 0, 0);
        topper.hat(3, 1);
        topper.set(2, 3, 1);
        due("sessions(1)", topper.sessions(1), 1);
        due("of(2, 1)", topper.of(2, 1), 1);
        due("of(2, 3)", topper.of(2, 3), 2);
        due("of(2, 4)", topper.of(2, 4), 49);
    }

    private static void learning() {
        promise = 10;
        // A hat learns by the faith it had ahead of its error: 50 is enough, 49 is not.
        HatCongress x = withHats(0, 1, 1);
        x.set(1, 4, 49);
        x.sessions(1);
        due("of(0, 1)", x.of(0, 1), 0);
        due("of(0, 4)", x.of(0, 4), 45);
        due("of(1, 1)", x.of(1, 1), 1);
        due("of(1, 4)", x.of(1, 4), 44);
        // A derby learns in session 0, not in session 1.
        HatCongress derby = withHats(4, 1);
        derby.sessions(1);
        due("of(0, 1)", derby.of(0, 1), 0);
        derby.set(0, 2, 9);
        derby.sessions(1);
        due("of(0, 1)", derby.of(0, 1), 0);
        due("of(0, 3)", derby.of(0, 3), 2);
        // A reversed bowler that says the wrong thing had the right view, and learns it.
        HatCongress bowler = withHats(1, 0);
        bowler.set(0, 3, 5);
        bowler.sessions(1);
        due("of(0, 3)", bowler.of(0, 3), 6);
        due("of(0, 1)", bowler.of(0, 1), 0);
        HatCongress held = withHats(0, 0, 255);
        held.set(0, 2, 9999);
        held.set(1, 3, 9999);
        held.set(1, 4, 3);
        held.sessions(1);
        due("of(0, 2), held to 9999", held.of(0, 2), 9999);
        due("of(1, 3), held to 9999", held.of(1, 3), 9999);
        due("of(0, 4)", held.of(0, 4), 55);
        due("of(1, 4), 0 at least", held.of(1, 4), 0);
    }

    private static void on() {
        promise = 11;
        HatCongress x = withHats(0, 0);
        int[][] rows = {
            {0, 0, 0, 0, 50}, {1, 0, 1, 0, 55}, {2, 2, 1, 1, 50}, {8, 170, 4, 4, 50}, {16, 170, 12, 4, 90},
            {200, 170, 196, 4, 99},
        };
        for (int[] r : rows) {
            for (int what = 0; what < 4; what++) {
                due("on(0, " + r[0] + ", " + what + ")", x.on(0, r[0], what), r[what + 1]);
            }
        }
        due("now(0)", x.now(0), 0);
        due("of(0, 1)", x.of(0, 1), 0);
        for (int[] b : new int[][] {{-1, 0, 0}, {1, 0, 0}, {0, -1, 0}, {0, 201, 0}, {0, 0, -1}, {0, 0, 4},
            {LEAST, MOST, MOST}}) {
            due("on(" + b[0] + ", " + b[1] + ", " + b[2] + ")", x.on(b[0], b[1], b[2]), BEYOND);
        }
    }

    private static void then() {
        promise = 12;
        HatCongress x = withHats(0, 0);
        x.holds(1, 15);
        int[][] rows = {{0, 15, 90}, {1, 14, 91}, {2, 12, 89}, {4, 0, 85}, {8, 0, 85}, {10, 2, 87}, {200, 170, 255}};
        for (int[] r : rows) {
            due("then(" + r[0] + ", 0)", x.then(r[0], 0), r[1]);
            due("then(" + r[0] + ", 1)", x.then(r[0], 1), r[2]);
        }
        due("now(3)", x.now(3), 15);
        due("now(0)", x.now(0), 0);
        for (int[] b : new int[][] {{-1, 0}, {201, 0}, {0, -1}, {0, 2}, {MOST, LEAST}}) {
            due("then(" + b[0] + ", " + b[1] + ")", x.then(b[0], b[1]), BEYOND);
        }
    }

    private static void comes() {
        promise = 13;
        HatCongress x = withHats(0, 0);
        due("comes(3, 0), as it is", x.comes(3, 0), 0);
        due("comes(1, 1)", x.comes(1, 1), 10);
        due("comes(7, 1)", x.comes(7, 1), 16);
        due("comes(0, 1)", x.comes(0, 1), NONE);
        x.holds(1, 16);
        due("comes(4, 1), as it is", x.comes(4, 1), 0);
        due("comes(4, 0)", x.comes(4, 0), 5);
        due("now(0)", x.now(0), 0);
        for (int[] b : new int[][] {{-1, 0}, {8, 0}, {0, -1}, {0, 2}, {MOST, 0}, {0, LEAST}}) {
            due("comes(" + b[0] + ", " + b[1] + ")", x.comes(b[0], b[1]), BEYOND);
        }
        due("status(3)", x.status(3), 1);
        HatCongress late = longRight(0, 199);
        late.holds(1, 255);
        due("comes(7, 0), in the last session that counts", late.comes(7, 0), 200);
        late = longRight(0, 200);
        late.holds(1, 255);
        due("comes(0, 0), a session too late", late.comes(0, 0), NONE);
    }

    /** A bowler wrong so often ahead of now that it says the other way round, and is right, for a long time. */
    private static HatCongress longRight(int view, int wrongs) {
        HatCongress x = withHats(1, view);
        x.holds(0, 255);
        x.set(0, 3, wrongs);
        return x;
    }

    private static void wise() {
        promise = 14;
        HatCongress x = withHats(0, 0);
        due("wise()", x.wise(), 16);
        x.holds(1, 170);
        due("wise(), as it is", x.wise(), 0);
        x.holds(1, 171);
        due("wise(), one answer away", x.wise(), 1);
        x.holds(0, 0);
        due("wise(), against 171", x.wise(), 8);
        due("now(0)", x.now(0), 0);
        // It is right of all but question 7, 6 times more often than wrong in 8 sessions, till it is reversed no more.
        due("wise(), in the last session that counts", longRight(128, 151).wise(), 200);
        due("wise(), a session too late", longRight(128, 152).wise(), NONE);
        HatCongress none = new HatCongress();
        due("wise() of none", none.wise(), NONE);
        due("status(3)", none.status(3), 1);
    }

    private static void errs() {
        promise = 15;
        HatCongress x = withHats(0, 0, 170, 1);
        due("errs(0)", x.errs(0), 2);
        due("errs(1)", x.errs(1), NONE);
        due("errs(2)", x.errs(2), 1);
        x.set(2, 3, 9999);
        due("errs(2), which can't be more", x.errs(2), NONE);
        x.set(0, 5, 0);
        due("errs(0), off", x.errs(0), NONE);
        due("now(0)", x.now(0), 0);
        for (int hat : new int[] {-1, 3, LEAST, MOST}) {
            due("errs(" + hat + ")", x.errs(hat), BEYOND);
        }
        // Its one false view is of question 0, which session 8 asks next.
        HatCongress late = withHats(0, 1);
        late.holds(0, 0);
        late.sessions(1);
        late.set(0, 1, 1);
        due("errs(0), seven sessions on", late.errs(0), 8);
        due("errs(0), in the last session that counts", longRight(0, 199).errs(0), 200);
        due("errs(0), a session too late", longRight(0, 200).errs(0), NONE);
    }

    private static void lift() {
        promise = 16;
        HatCongress x = withHats(0, 1, 0);
        x.holds(0, 0);
        x.holds(1, 1);
        due("lift(1), the one that is wrong", x.lift(1), 0);
        x.set(0, 1, 0);
        x.set(1, 1, 1);
        due("lift(1), the other one", x.lift(1), 1);
        x.set(1, 1, 0);
        due("lift(1), of several the least", x.lift(1), 0);
        x.set(0, 5, 0);
        due("lift(60), the only one", x.lift(60), 1);
        x.set(1, 5, 0);
        due("lift(1), none is on", x.lift(1), NONE);
        due("lift(0) comes first", x.lift(0), BEYOND);
        for (int n : new int[] {-1, 61, LEAST, MOST}) {
            due("lift(" + n + ")", x.lift(n), BEYOND);
        }
        due("now(6)", x.now(6), 0);
        due("lift(1) of none", new HatCongress().lift(1), NONE);
        HatCongress fools = withHats(0, 255, 255);
        fools.holds(0, 0);
        fools.holds(1, 255);
        due("lift(1), no TRUE ONES at all", fools.lift(1), 0);
        HatCongress ten = withHats(0, 0, 0, 0, 0, 0, 0, 0, 0, 0, 1);
        for (int h = 1; h < 9; h++) {
            ten.set(h, 5, 0);
        }
        ten.holds(1, 1);
        due("lift(1), the tenth", ten.lift(1), 9);
    }

    private static void kind() {
        promise = 17;
        HatCongress x = withHats(0, 0);
        x.holds(0, 255);
        due("kind(0, 8), a bowler reverses", x.kind(0, 8), 1);
        due("kind(0, 1), none is right", x.kind(0, 1), 0);
        x.holds(0, 128);
        x.set(0, 1, 127);
        x.set(0, 4, 10);
        due("kind(0, 8), a beret says yes to 7 and what is held", x.kind(0, 8), 5);
        due("of(0, 0)", x.of(0, 0), 0);
        x.set(0, 5, 0);
        due("kind(0, 60), off", x.kind(0, 60), 0);
        for (int[] b : new int[][] {{-1, 1}, {1, 1}, {0, 0}, {0, 61}, {MOST, 1}, {0, LEAST}}) {
            due("kind(" + b[0] + ", " + b[1] + ")", x.kind(b[0], b[1]), BEYOND);
        }
    }

    private static void view() {
        promise = 18;
        HatCongress x = withHats(0, 77);
        due("view(0, 1)", x.view(0, 1), 0);
        due("view(0, 2)", x.view(0, 2), 2);
        due("view(0, 8)", x.view(0, 8), 170);
        due("view(0, 16), it learns", x.view(0, 16), 0);
        x.holds(0, 255);
        due("view(0, 8)", x.view(0, 8), 255);
        due("of(0, 1)", x.of(0, 1), 77);
        x.set(0, 5, 0);
        due("view(0, 32), off", x.view(0, 32), 0);
        for (int[] b : new int[][] {{-1, 1}, {1, 1}, {0, 0}, {0, 33}, {MOST, 1}, {0, LEAST}}) {
            due("view(" + b[0] + ", " + b[1] + ")", x.view(b[0], b[1]), BEYOND);
        }
    }

    private static void faith() {
        promise = 19;
        HatCongress x = withHats(0, 0);
        x.holds(0, 255);
        due("faith(0, 16, 0)", x.faith(0, 16, 0), 0);
        due("faith(0, 1, 1)", x.faith(0, 1, 1), NONE);
        due("faith(0, 1, 0)", x.faith(0, 1, 0), 0);
        due("faith(0, 16, 1)", x.faith(0, 16, 1), 50);
        due("faith(0, 16, 3)", x.faith(0, 16, 3), 60);
        due("faith(0, 16, 8)", x.faith(0, 16, 8), 85);
        due("faith(0, 16, 9)", x.faith(0, 16, 9), NONE);
        x.set(0, 2, 100);
        due("faith(0, 16, 100)", x.faith(0, 16, 100), 0);
        due("faith(0, 16, 103)", x.faith(0, 16, 103), 60);
        due("faith(0, 60, 9999)", x.faith(0, 60, 9999), NONE);
        due("of(0, 4)", x.of(0, 4), 50);
        for (int[] b : new int[][] {{-1, 1, 0}, {1, 1, 0}, {0, 0, 0}, {0, 61, 0}, {0, 1, -1}, {0, 1, 10000},
            {MOST, LEAST, MOST}}) {
            due("faith(" + b[0] + ", " + b[1] + ", " + b[2] + ")", x.faith(b[0], b[1], b[2]), BEYOND);
        }
    }

    private static void swing() {
        promise = 20;
        HatCongress x = withHats(0, 0, 1, 1);
        due("swing(), the first that said yes", x.swing(), 1);
        x.set(1, 5, 0);
        due("swing(), even, and no was held", x.swing(), 0);
        x.holds(1, 1);
        due("swing(), even, and yes was held", x.swing(), 2);
        x.set(1, 5, 1);
        due("swing(), yes was held", x.swing(), NONE);
        x.set(0, 1, 1);
        x.holds(1, 0);
        due("swing(), all say yes", x.swing(), NONE);
        due("now(6)", x.now(6), 7);
        x.set(1, 5, 0);
        x.set(2, 5, 0);
        due("swing(), the only one that is on", x.swing(), 0);
        x.sessions(1);
        due("swing(), its view of 1 is no, as held", x.swing(), NONE);
        x.holds(1, 2);
        due("swing(), in session 1", x.swing(), 0);
        due("swing() of none", new HatCongress().swing(), NONE);
        due("swing() of ten", withHats(0, 0, 0, 0, 0, 0, 0, 0, 0, 0, 1).swing(), NONE);
        HatCongress tenth = withHats(0, 0, 0, 0, 0, 0, 1, 1, 1, 1, 1);
        tenth.set(0, 5, 0);
        tenth.set(8, 5, 0);
        tenth.holds(1, 1);
        due("swing() of eight, even", tenth.swing(), 5);
        tenth.set(9, 1, 0);
        due("swing() of eight, no by two", tenth.swing(), NONE);
        tenth.set(9, 5, 0);
        due("swing() of seven, no by one", tenth.swing(), 1);
    }

    private static void revise() {
        promise = 21;
        HatCongress x = withHats(0, 8);
        x.holds(0, 0);
        due("revise(8)", x.revise(8), 3);
        due("revise(1), of several the least", x.revise(1), 1);
        x.hat(0, 36);
        x.hat(0, 32);
        due("revise(8), of several", x.revise(8), 5);
        x.set(1, 5, 0);
        x.set(2, 5, 0);
        due("revise(8), two are off", x.revise(8), 3);
        due("now(2)", x.now(2), 0);
        due("revise(60) of none", new HatCongress().revise(60), 0);
        HatCongress doubter = withHats(0, 247);
        doubter.holds(0, 255);
        due("revise(8), from yes to no", doubter.revise(8), 3);
        HatCongress ten = withHats(0, 0, 0, 0, 0, 0, 0, 0, 0, 0, 128);
        ten.holds(0, 0);
        for (int h = 0; h < 9; h++) {
            ten.set(h, 5, 0);
        }
        due("revise(8), the tenth", ten.revise(8), 7);
        for (int n : new int[] {0, -1, 61, LEAST, MOST}) {
            due("revise(" + n + ")", x.revise(n), BEYOND);
        }
    }

    private static void best() {
        promise = 22;
        HatCongress x = withHats(0, 85, 170, 170);
        due("best(0), of several the least", x.best(0), 0);
        due("best(1)", x.best(1), 1);
        x.set(2, 2, 9);
        x.set(2, 3, 8);
        due("best(0)", x.best(0), 2);
        x.set(1, 2, 7);
        due("best(0), less WRONG", x.best(0), 1);
        x.set(0, 2, 9999);
        due("best(200)", x.best(200), 0);
        x.set(0, 5, 0);
        due("best(200), off", x.best(200), 0);
        x.set(0, 3, 9999);
        due("best(200)", x.best(200), 1);
        due("now(0)", x.now(0), 0);
        HatCongress ten = withHats(0, 85, 85, 85, 85, 85, 85, 85, 85, 85, 170);
        due("best(3), the tenth", ten.best(3), 9);
        HatCongress none = new HatCongress();
        due("best(0) of none", none.best(0), NONE);
        due("best(201) of none", none.best(201), BEYOND);
        for (int n : new int[] {-1, 201, LEAST, MOST}) {
            due("best(" + n + ")", x.best(n), BEYOND);
        }
    }

    private static void feed() {
        promise = 23;
        HatCongress x = new HatCongress();
        due("feed(.., 3), the highest of the lowest first", x.feed(('!' << 24) | ('h' << 16) | ('a' << 8) | 't', 3), 3);
        due("lobby()", x.lobby(), 1);
        due("feed(.., 4)", x.feed((';' << 24) | ('h' << 16) | ('a' << 8) | 't', 4), 4);
        due("lobby()", x.lobby(), -1);
        due("feed(-1, 2)", x.feed(-1, 2), 2);
        due("feed(99, 1)", x.feed(99, 1), 3);
        for (int n : new int[] {0, -1, 5, LEAST, MOST}) {
            due("feed(0, " + n + ")", x.feed(0, n), BEYOND);
        }
        due("wipe()", x.wipe(), 3);
        for (int i = 1; i <= 29; i++) {
            due("feed(0, 4)", x.feed(0, 4), 4 * i);
        }
        due("feed(0, 3)", x.feed(0, 3), 119);
        due("feed(0, 2)", x.feed(0, 2), FULL);
        due("feed(0, 5)", x.feed(0, 5), BEYOND);
        due("count(1)", x.count(1), 119);
        due("feed(0, 1)", x.feed(0, 1), 120);
        due("feed(0, 1)", x.feed(0, 1), FULL);
        due("count(1)", x.count(1), 120);
    }

    private static void wipe() {
        promise = 24;
        HatCongress x = new HatCongress();
        due("wipe()", x.wipe(), 0);
        x.feed(0, 4);
        due("wipe()", x.wipe(), 4);
        due("wipe()", x.wipe(), 0);
        due("count(1)", x.count(1), 0);
        text(x, "cap", 1);
    }

    private static void lobby() {
        promise = 25;
        HatCongress x = new HatCongress();
        text(x, "hat;bowler view 255;cap faith 99;topper off;derby view 0 faith 0 off;beret view 7 off", 6);
        int[][] rows = {{0, 0, 50, 1}, {1, 255, 50, 1}, {2, 0, 99, 1}, {3, 0, 50, 0}, {4, 0, 0, 0}, {5, 7, 50, 0}};
        for (int h = 0; h < rows.length; h++) {
            int[] whats = {0, 1, 4, 5};
            for (int i = 0; i < whats.length; i++) {
                due("of(" + h + ", " + whats[i] + ")", x.of(h, whats[i]), rows[h][i]);
            }
        }
        text(x, "  truth 255 ;lift0;  holds 0 yes;holds7yes;holds 3no ; lift 0; hat;lift 6 ", 8);
        due("now(2)", x.now(2), 255);
        due("now(3)", x.now(3), 129);
        due("of(0, 5)", x.of(0, 5), 0);
        due("of(6, 5)", x.of(6, 5), 0);
        text(x, "holds 7 no;truth 000000000000000000000000000000000000009", 2);
        due("now(2)", x.now(2), 9);
        due("now(3)", x.now(3), 1);
        text(x, "hat view1faith2off", 1);
        due("of(7, 1)", x.of(7, 1), 1);
        due("of(7, 4)", x.of(7, 4), 2);
        due("of(7, 5)", x.of(7, 5), 0);
        due("status(-1)", x.status(-1), 0);
    }

    private static void faults() {
        promise = 25;
        HatCongress x = withHats(0, 1, 2);
        String[] texts = {
            "", "   ", "hats", "Hat", "hat ;", "hat; ", ";hat", "hat;;hat", "hat hat", "hat 5", "hat view", "hat view ",
            "hat view 256", "hat view x", "hat view;", "hat faith 100", "hat faith 9 view 2", "hat off off",
            "hat off view 1", "hat view 1 view 2", "hatview 1", "truth", "truth 256", "truth 1000", "truth yes",
            "truth 5 6", "truth 99999999999999999999", "holds", "holds 8 yes", "holds 3", "holds 3 maybe",
            "holds 3 yesno", "holds 3 yes no", "lift", "lift 2", "hat;lift 3", "lift 0 1", "lift x", "yes", "7",
            "hat-", "hat\tview 1", "hat view -1", "truth 5;lift 9", "ha", "hat view 1faith", "hat ;\u00ff",
            "bat", "haw", "hbt view 1", "hat vie 1", "hat xiew 1", "hat faitx 1", "hat ofg", "holds 3 des", "lifts 0",
        };
        int[] places = {
            0, 3, 0, 0, 5, 5, 0, 4, 4, 4, 8, 9,
            9, 9, 8, 10, 12, 8,
            8, 11, 0, 5, 6, 6, 6,
            8, 6, 5, 6, 7, 8,
            8, 12, 4, 5, 9, 7, 5, 0, 0,
            3, 3, 9, 13, 0, 15, 5,
            0, 0, 0, 4, 4, 4, 4, 8, 0,
        };
        due("as many faults as texts", places.length, texts.length);
        for (int i = 0; i < texts.length && i < places.length; i++) {
            text(x, texts[i], -1 - places[i]);
        }
        due("count(0)", x.count(0), 2);
        due("now(2)", x.now(2), 170);
        due("now(3)", x.now(3), 0);
        due("now(6)", x.now(6), 3);
        due("status(-1)", x.status(-1), 0);
        HatCongress full = withHats(0, 0, 0, 0, 0, 0, 0, 0, 0, 0);
        text(full, "truth 1;hat; beret", -14);
        due("now(2)", full.now(2), 170);
        due("count(0)", full.count(0), 9);
        text(full, "hat;lift 9", 2);
        text(full, " hat view 1", -2);
        text(full, "lift 8", 1);
        due("now(6)", full.now(6), 255);
        text(new HatCongress(), "lift 0", -6);
    }

    private static void sheet() {
        promise = 26;
        HatCongress x = new HatCongress();
        due("sheet(0, 8, 40)", x.sheet(0, 8, 40), 40);
        due("sheet(3, 64, 0)", x.sheet(3, 64, 0), 0);
        due("write(3, 0, 0)", x.write(3, 0, 0), BEYOND);
        due("sheet(1, 16, 2)", x.sheet(1, 16, 2), 2);
        due("write(1, 1, 5)", x.write(1, 1, 5), 0);
        due("sheet(1, 16, -1)", x.sheet(1, 16, -1), SIZE);
        due("sheet(1, 0, -1)", x.sheet(1, 0, -1), SIZE);
        due("sheet(1, 0, 41)", x.sheet(1, 0, 41), BEYOND);
        due("sheet(1, 8, 41)", x.sheet(1, 8, 41), BEYOND);
        for (int bits : new int[] {-1, 1, 7, 32, 63, 65, LEAST, MOST}) {
            due("sheet(1, " + bits + ", -1)", x.sheet(1, bits, -1), BEYOND);
        }
        for (int s : new int[] {-1, 4, LEAST, MOST}) {
            due("sheet(" + s + ", 8, -1)", x.sheet(s, 8, -1), BEYOND);
        }
        due("write(1, 1, 5)", x.write(1, 1, 5), 5);
        due("sheet(1, 16, 2)", x.sheet(1, 16, 2), 2);
        due("write(1, 1, 0), all are 0 again", x.write(1, 1, 0), 0);
        due("sheet(1, 0, 40)", x.sheet(1, 0, 40), 0);
        due("write(1, 0, 0)", x.write(1, 0, 0), MISSING);
        due("sheet(1, 8, " + LEAST + ")", x.sheet(1, 8, LEAST), SIZE);
        due("sheet(1, 8, " + MOST + ")", x.sheet(1, 8, MOST), BEYOND);
    }

    private static void write() {
        promise = 27;
        HatCongress x = new HatCongress();
        x.sheet(0, 8, 2);
        x.sheet(1, 16, 2);
        x.sheet(2, 64, 2);
        due("write(0, 1, 127)", x.write(0, 1, 127), 0);
        due("write(0, 1, 128)", x.write(0, 1, 128), 127);
        due("write(0, 1, 511)", x.write(0, 1, 511), -128);
        due("write(0, 1, 256)", x.write(0, 1, 256), -1);
        due("write(0, 1, 0)", x.write(0, 1, 0), 0);
        due("write(1, 0, 32768)", x.write(1, 0, 32768), 0);
        due("write(1, 0, 65535)", x.write(1, 0, 65535), -32768);
        due("write(1, 0, 65536)", x.write(1, 0, 65536), -1);
        due("write(1, 0, 255)", x.write(1, 0, 255), 0);
        due("write(1, 0, 0)", x.write(1, 0, 0), 255);
        due("write(2, 0, least)", x.write(2, 0, Long.MIN_VALUE), 0);
        due("write(2, 0, most)", x.write(2, 0, Long.MAX_VALUE), Long.MIN_VALUE);
        due("write(2, 0, BEYOND)", x.write(2, 0, BEYOND), Long.MAX_VALUE);
        due("write(2, 0, 0)", x.write(2, 0, 0), BEYOND);
        due("status(-1): that was a number", x.status(-1), 0);
        due("write(3, 9, 0)", x.write(3, 9, 0), MISSING);
        for (int s : new int[] {-1, 4, LEAST, MOST}) {
            due("write(" + s + ", 0, 0)", x.write(s, 0, 0), BEYOND);
        }
        for (int i : new int[] {-1, 2, 39, 40, LEAST, MOST}) {
            due("write(0, " + i + ", 0)", x.write(0, i, 0), BEYOND);
        }
    }

    private static void copy() {
        promise = 28;
        HatCongress x = new HatCongress();
        x.sheet(0, 16, 5);
        x.sheet(1, 16, 3);
        x.sheet(2, 8, 5);
        for (int i = 0; i < 5; i++) {
            x.write(0, i, 10 + i);
        }
        due("copy(0, 0, 0, 1, 4)", x.copy(0, 0, 0, 1, 4), 4);
        due("copy(0, 2, 1, 0, 3)", x.copy(0, 2, 1, 0, 3), 3);
        due("copy(0, 1, 0, 0, 4)", x.copy(0, 1, 0, 0, 4), 4);
        int[] rows = {10, 11, 12, 13, 13};
        for (int i = 0; i < 5; i++) {
            due("write(0, " + i + ", 0)", x.write(0, i, 0), rows[i]);
        }
        for (int i = 0; i < 3; i++) {
            due("write(1, " + i + ", 0)", x.write(1, i, 0), 11 + i);
        }
        due("copy(0, 5, 1, 3, 0)", x.copy(0, 5, 1, 3, 0), 0);
        for (int[] b : new int[][] {{0, 0, 1, 0, 4}, {0, 3, 1, 0, 3}, {0, 0, 1, 1, 3}, {0, -1, 1, 0, 1}, {0, 0, 1, -1, 1},
            {0, 0, 1, 0, -1}, {0, 6, 1, 0, 0}, {0, 0, 1, 4, 0}, {0, MOST, 1, 0, 1}, {0, 1, 1, MOST, MOST},
            {0, LEAST, 1, LEAST, LEAST}, {0, 0, 1, 0, MOST}}) {
            due("copy of " + java.util.Arrays.toString(b), x.copy(b[0], b[1], b[2], b[3], b[4]), BEYOND);
        }
        due("copy(0, 0, 2, 0, 9)", x.copy(0, 0, 2, 0, 9), KIND);
        due("copy(0, 0, 3, 0, 1)", x.copy(0, 0, 3, 0, 1), MISSING);
        due("copy(3, 0, 0, 0, 9)", x.copy(3, 0, 0, 0, 9), MISSING);
        for (int s : new int[] {-1, 4, LEAST, MOST}) {
            due("copy(" + s + ", 0, 3, 0, 1)", x.copy(s, 0, 3, 0, 1), BEYOND);
            due("copy(3, 0, " + s + ", 0, 1)", x.copy(3, 0, s, 0, 1), BEYOND);
        }
    }

    private static void lays() {
        promise = 29;
        HatCongress x = withHats(0, 1, 2, 3, 4);
        x.sheet(0, 16, 6);
        int[] numbers = {255, 256, -1, 0, 9, 9};
        for (int i = 0; i < numbers.length; i++) {
            x.write(0, i, numbers[i]);
        }
        due("lays(0)", x.lays(0), 2);
        int[] views = {255, 2, 3, 0};
        for (int h = 0; h < views.length; h++) {
            due("of(" + h + ", 1)", x.of(h, 1), views[h]);
        }
        x.sheet(1, 64, 2);
        x.write(1, 0, 1L << 32);
        x.write(1, 1, 77);
        due("lays(1)", x.lays(1), 1);
        due("of(0, 1)", x.of(0, 1), 255);
        due("of(1, 1)", x.of(1, 1), 77);
        x.sheet(1, 8, 1);
        x.write(1, 0, 200);
        due("lays(1), 200 in 8 bits is less than 0", x.lays(1), 0);
        due("count(0)", x.count(0), 4);
        due("lays(2)", x.lays(2), MISSING);
        for (int s : new int[] {-1, 4, LEAST, MOST}) {
            due("lays(" + s + ")", x.lays(s), BEYOND);
        }
    }

    private static void book() {
        promise = 30;
        HatCongress x = withHats(3, 4);
        x.hat(0, 0);
        x.set(0, 2, 3);
        x.hat(3, 0);
        x.sheet(0, 8, 10);
        due("book(0, 0)", x.book(0, 0), 10);
        int[] topper = {0, 0, 1, 0, 0, 0, 0, 0, 0, 0};
        for (int i = 0; i < topper.length; i++) {
            due("write(0, " + i + ", 0)", x.write(0, i, 0), topper[i]);
        }
        due("book(0, 1)", x.book(0, 1), 10);
        int[] hat = {0, 0, 0, 0, 0, 0, 0, 0, 0, 1};
        for (int i = 0; i < hat.length; i++) {
            due("write(0, " + i + ", 0)", x.write(0, i, 0), hat[i]);
        }
        x.set(1, 5, 0);
        x.set(1, 1, 2);
        due("book(0, 1), off", x.book(0, 1), 10);
        due("write(0, 1, 0), what it says, off as it is", x.write(0, 1, 0), 1);
        x.sheet(1, 64, 2);
        due("book(1, 2)", x.book(1, 2), 2);
        due("write(1, 1, 0), nothing", x.write(1, 1, 0), -1);
        x.sheet(1, 64, 0);
        due("book(1, 2)", x.book(1, 2), 0);
        due("now(0)", x.now(0), 0);
        due("book(3, 9)", x.book(3, 9), MISSING);
        for (int b : new int[] {-1, 4, LEAST, MOST}) {
            due("book(" + b + ", 0)", x.book(b, 0), BEYOND);
            due("book(0, " + b + ")", x.book(0, b), BEYOND);
        }
        due("book(0, 3)", x.book(0, 3), BEYOND);
    }

    private static void read() {
        promise = 31;
        HatCongress x = withHats(0, 0);
        x.sheet(0, 8, 1);
        // number, faith, then pairs in session 0
        int[][] rows = {{0, 50, 640}, {1, 50, 640}, {-1, 50, 256}, {2, 50, 0}, {0, 0, 768}, {1, 0, 256}, {-1, 0, 512}};
        for (int[] r : rows) {
            x.write(0, 0, r[0]);
            x.set(0, 4, r[1]);
            due("read(0, 0) of " + r[0] + " with faith " + r[1], x.read(0, 0), r[2]);
        }
        x.set(0, 4, 50);
        x.sheet(0, 8, 40);
        x.book(0, 0);
        due("read(0, 0) of its own book", x.read(0, 0) > 0 ? 1 : 0, 1);
        due("of(0, 0)", x.of(0, 0), 0);
        due("of(0, 1)", x.of(0, 1), 0);
        due("now(0)", x.now(0), 0);
        x.sheet(0, 64, 2);
        x.write(0, 0, 1);
        // Said yes to 0, which was wrong: a bowler and a derby say to 1 the other way round.
        due("read(0, 0) of yes, no", x.read(0, 0), 320);
        x.write(0, 0, 1L << 32);
        due("read(0, 0) of what none says", x.read(0, 0), 0);
        x.sheet(0, 64, 0);
        due("read(0, 0) of no numbers", x.read(0, 0), 1536);
        due("read(3, 9)", x.read(3, 9), MISSING);
        for (int b : new int[] {-1, 4, LEAST, MOST}) {
            due("read(" + b + ", 0)", x.read(b, 0), BEYOND);
            due("read(0, " + b + ")", x.read(0, b), BEYOND);
        }
        due("read(0, 1)", x.read(0, 1), BEYOND);
    }

    private static void image() {
        promise = 32;
        HatCongress x = withHats(1, 7);
        x.set(0, 2, 2);
        x.set(0, 3, 3);
        x.set(0, 4, 4);
        x.holds(0, 5);
        x.holds(1, 6);
        x.set(0, 5, 0);
        x.sessions(9);
        due("image()", x.image(), 1);
        x.set(0, 5, 1);
        x.turn(0, 0);
        x.hat(0, 0);
        x.set(0, 4, 99);
        x.sessions(5);
        x.holds(0, 200);
        due("undo()", x.undo(), 1);
        int[] traits = {1, 7, 2, 3, 4, 0};
        for (int what = 0; what < traits.length; what++) {
            due("of(0, " + what + ")", x.of(0, what), traits[what]);
        }
        due("now(0)", x.now(0), 9);
        due("now(2)", x.now(2), 5);
        due("now(3)", x.now(3), 6);
        x.hat(2, 2);
        due("image()", x.image(), 1);
        x.set(0, 1, 0);
        due("undo(), the latest", x.undo(), 2);
        due("of(0, 1)", x.of(0, 1), 7);
    }

    private static void undo() {
        promise = 33;
        HatCongress x = new HatCongress();
        due("undo()", x.undo(), NONE);
        x.image();
        x.hat(0, 0);
        x.feed(0, 3);
        x.sheet(0, 8, 1);
        x.write(0, 0, 5);
        x.now(9);
        due("undo()", x.undo(), 0);
        due("count(0)", x.count(0), 0);
        due("count(1), THE TAPE stays", x.count(1), 3);
        due("write(0, 0, 0), sheets stay", x.write(0, 0, 0), 5);
        due("status(0)", x.status(0), 1);
        due("status(3)", x.status(3), 1);
        x.hat(0, 3);
        due("hat(0, 4)", x.hat(0, 4), 1);
        due("undo(), again", x.undo(), 0);
        due("hat(0, 4)", x.hat(0, 4), 0);
        for (int what = 2; what <= 5; what++) {
            x.set(0, what, what == 5 ? 0 : 9);
        }
        x.undo();
        x.hat(0, 0);
        int[] fresh = {0, 0, 0, 0, 50, 1};
        for (int what = 0; what < fresh.length; what++) {
            due("of(0, " + what + "), a new one", x.of(0, what), fresh[what]);
        }
    }

    private static void tear() {
        promise = 34;
        HatCongress x = new HatCongress();
        due("tear()", x.tear(), 0);
        x.image();
        x.image();
        due("tear()", x.tear(), 1);
        due("tear()", x.tear(), 0);
        due("undo()", x.undo(), NONE);
    }

    private static void count() {
        promise = 35;
        HatCongress x = withHats(0, 0, 0, 0);
        x.feed(0, 4);
        x.set(0, 2, 9999);
        x.set(2, 2, 3);
        x.set(0, 3, 5);
        x.set(1, 3, 6);
        x.set(1, 5, 0);
        int[] counts = {3, 4, 10002, 11};
        for (int what = 0; what < counts.length; what++) {
            due("count(" + what + ")", x.count(what), counts[what]);
        }
        for (int what : new int[] {-1, 4, LEAST, MOST}) {
            due("count(" + what + ")", x.count(what), BEYOND);
        }
        HatCongress ten = withHats(0, 0, 0, 0, 0, 0, 0, 0, 0, 0, 0);
        for (int h = 0; h < 10; h++) {
            ten.set(h, 2, 9999);
            ten.set(h, 3, 9990 + h);
        }
        due("count(2) of ten", ten.count(2), 99990);
        due("count(3) of ten", ten.count(3), 99945);
    }

    private static void status() {
        promise = 36;
        HatCongress x = new HatCongress();
        x.now(8);
        x.now(-1);
        x.undo();
        x.write(0, 0, 0);
        x.sheet(0, 8, -1);
        x.hat(2, 0);
        x.as(0, 1);
        for (int i = 0; i < 30; i++) {
            x.feed(0, 4);
        }
        x.feed(0, 1);
        x.lobby();
        int[] counts = {2, 1, 1, 1, 0, 1, 1};
        for (int which = 0; which < counts.length; which++) {
            due("status(" + which + ")", x.status(which), counts[which]);
        }
        due("status(-1)", x.status(-1), 7);
        due("status(-2)", x.status(-2), BEYOND);
        due("status(7)", x.status(7), BEYOND);
        due("status(" + LEAST + ")", x.status(LEAST), BEYOND);
        due("status(" + MOST + ")", x.status(MOST), BEYOND);
        due("status(0)", x.status(0), 6);
        due("status(-1)", x.status(-1), 11);
    }

    public static void main(String[] args) {
        newObject();
        holds();
        now();
        hat();
        of();
        says();
        set();
        turn();
        as();
        sessions();
        sessionOfMany();
        learning();
        lastSession();
        on();
        then();
        comes();
        wise();
        errs();
        lift();
        kind();
        view();
        faith();
        swing();
        revise();
        best();
        feed();
        wipe();
        lobby();
        faults();
        sheet();
        write();
        copy();
        lays();
        book();
        read();
        image();
        undo();
        tear();
        count();
        status();
        System.out.println(asked + " answers, " + wrong + " not as due");
        if (wrong != 0) {
            System.exit(1);
        }
    }
}
