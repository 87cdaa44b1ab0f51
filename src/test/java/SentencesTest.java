import java.io.IOException;
import java.nio.file.Files;
import java.nio.file.Path;
import java.util.ArrayList;
import java.util.LinkedHashMap;
import java.util.List;
import java.util.Map;
import java.util.function.Supplier;
import java.util.regex.Matcher;
import java.util.regex.Pattern;

/**
 * The document, sentence by sentence: each has a test of its own, with the boundary cases that it names, from both
 * sides. A fault tells the promise (0: the terms) and the sentence. At the end the sentences quoted here are compared
 * with those of ../shared/DOC.md, so that none is left out.
 */
public final class SentencesTest {
    private static final int BEYOND = -1000000001;
    private static final int FULL = -1000000002;
    private static final int KIND = -1000000003;
    private static final int NONE = -1000000004;
    private static final int STATE = -1000000005;
    private static final int MISSING = -1000000006;
    private static final int SIZE = -1000000007;

    private static final int LEAST = Integer.MIN_VALUE;
    private static final int MOST = Integer.MAX_VALUE;

    private static final int VIEW = 1;
    private static final int RIGHT = 2;
    private static final int WRONG = 3;
    private static final int FAITH = 4;
    private static final int ON = 5;

    private static final String[] KINDS = {"hat", "bowler", "cap", "topper", "derby", "beret"};
    private static final int HAT = 0;
    private static final int BOWLER = 1;
    private static final int CAP = 2;
    private static final int TOPPER = 3;
    private static final int DERBY = 4;
    private static final int BERET = 5;

    private interface Act {
        long on(HatCongress x);
    }

    /** All of it takes a second or two; a call that has not come to an end by then won't. */
    private static final long MOST_MILLIS = 120_000;

    private static volatile String sentence;
    private static final Map<String, Integer> answers = new LinkedHashMap<>();
    private static final List<String> quoted = new ArrayList<>();
    private static int wrong;

    // ---- how a test is told

    private static void sentence(int promise, String words) {
        sentence = "promise " + promise + ": " + words;
        quoted.add(sentence);
        answers.merge(sentence, 0, Integer::sum);
    }

    private static void due(String call, long got, long want) {
        answers.merge(sentence, 1, Integer::sum);
        if (got != want) {
            wrong++;
            System.out.println(sentence + "\n    " + call + " answered " + got + ", due is " + want);
        }
    }

    /** The call answers a finding, which is counted once, and all else is as it is without the call. */
    private static void refused(Supplier<HatCongress> made, String call, Act act, int finding) {
        HatCongress x = made.get();
        HatCongress twin = made.get();
        due(call, act.on(x), finding);
        for (int which = -1; which < 7; which++) {
            int more = which == -1 || which == BEYOND - finding ? 1 : 0;
            due("status(" + which + ") behind " + call, x.status(which), twin.status(which) + more);
        }
        same(x, twin, call);
    }

    private static void refused(String call, Act act, int finding) {
        refused(SentencesTest::furnished, call, act, finding);
    }

    /** The call answers what it answers, and nothing at all has changed behind it. */
    private static void changesNothing(Supplier<HatCongress> made, String call, Act act) {
        HatCongress x = made.get();
        HatCongress twin = made.get();
        due("1 if " + call + " is no finding", act.on(x) > -1000000000 ? 1 : 0, 1);
        due("status(-1) behind " + call, x.status(-1), twin.status(-1));
        same(x, twin, call);
    }

    private static void changesNothing(String call, Act act) {
        changesNothing(SentencesTest::furnished, call, act);
    }

    private static void same(HatCongress x, HatCongress twin, String call) {
        due("1 if all is as it was behind " + call, all(x).equals(all(twin)) ? 1 : 0, 1);
    }

    /** All that can be seen of an object, which is of no use afterwards. */
    private static List<Long> all(HatCongress x) {
        List<Long> seen = new ArrayList<>(table(x));
        seen.add((long) x.count(1));
        for (int s = 0; s < 4; s++) {
            for (int i = 0; i <= 40; i++) {
                seen.add(x.write(s, i, 1L << 40 | 1L << 12 | 5));
            }
            seen.add(x.write(s, 0, 0));
        }
        seen.add((long) x.lobby());
        seen.addAll(table(x));
        seen.add((long) x.undo());
        seen.addAll(table(x));
        return seen;
    }

    private static List<Long> table(HatCongress x) {
        List<Long> seen = new ArrayList<>();
        for (int what = 0; what < 4; what++) {
            seen.add((long) x.now(what));
        }
        for (int h = 0; h < x.count(0); h++) {
            for (int what = 0; what < 6; what++) {
                seen.add((long) x.of(h, what));
            }
        }
        return seen;
    }

    /** The ints next to a range, and the farthest from it. */
    private static int[] outside(int least, int most) {
        return new int[] {LEAST, least - 1, most + 1, MOST};
    }

    // ---- what the tests begin with

    private static HatCongress of(int kind, int... views) {
        HatCongress x = new HatCongress();
        for (int view : views) {
            x.hat(kind, view);
        }
        return x;
    }

    /** One hat with traits set. */
    private static HatCongress one(int kind, int view, int right, int wrong, int faith) {
        HatCongress x = of(kind, view);
        x.set(0, RIGHT, right);
        x.set(0, WRONG, wrong);
        x.set(0, FAITH, faith);
        return x;
    }

    /** Some of everything: three hats (one off), an image, a tape, three sheets; sheet 3 is missing. */
    private static HatCongress furnished() {
        HatCongress x = of(HAT, 12);
        x.holds(1, 9);
        x.image();
        x.hat(DERBY, 51);
        x.hat(CAP, 240);
        x.holds(0, 204);
        x.sessions(5);
        x.set(2, ON, 0);
        feed(x, "truth 3;lift 0");
        x.sheet(0, 8, 3);
        x.sheet(1, 16, 3);
        x.sheet(2, 64, 2);
        for (int s = 0; s < 3; s++) {
            for (int i = 0; i < 2; i++) {
                x.write(s, i, 7 * s + i + 1);
            }
        }
        return x;
    }

    private static HatCongress noneOn() {
        HatCongress x = furnished();
        x.set(0, ON, 0);
        x.set(1, ON, 0);
        return x;
    }

    /** The only one that is ON has faith, and says yes to all, which is neither held nor true. */
    private static HatCongress oneIsOn() {
        HatCongress x = noneOn();
        x.set(0, ON, 1);
        x.set(0, VIEW, 255);
        x.set(0, FAITH, 99);
        x.holds(0, 0);
        x.holds(1, 0);
        return x;
    }

    private static HatCongress tenHats() {
        HatCongress x = furnished();
        for (int h = 3; h < 10; h++) {
            x.hat(h % 6, 9 * h);
        }
        return x;
    }

    private static HatCongress fullTape() {
        HatCongress x = furnished();
        x.wipe();
        feed(x, padded("truth 3;lift 0", 120));
        return x;
    }

    private static HatCongress torn() {
        HatCongress x = furnished();
        x.tear();
        return x;
    }

    /** A bowler reversed for as many sessions as it has been wrong: right of all as long, then wrong. */
    private static HatCongress reversed(int view, int wrongs) {
        HatCongress x = one(BOWLER, view, 0, wrongs, 50);
        x.holds(0, 255);
        return x;
    }

    /** The longest way that there is: 99,999 sessions gone take more calls than the document speaks of. */
    private static HatCongress atSession(int session) {
        HatCongress x = furnished();
        int gone = x.now(0);
        while (gone < session) {
            int n = Math.min(100, session - gone);
            x.sessions(n);
            gone += n;
        }
        return x;
    }

    private static String padded(String text, int length) {
        StringBuilder b = new StringBuilder(text);
        while (b.length() < length) {
            b.append(' ');
        }
        return b.toString();
    }

    private static void feed(HatCongress x, String text) {
        for (int i = 0; i < text.length(); i += 4) {
            int bytes = 0;
            int n = 0;
            for (int k = i; k < i + 4 && k < text.length(); k++) {
                bytes = bytes << 8 | text.charAt(k);
                n++;
            }
            x.feed(bytes, n);
        }
    }

    private static int lobby(HatCongress x, String text) {
        feed(x, text);
        return x.lobby();
    }

    private static HatCongress comesTo(String text, int items) {
        HatCongress x = new HatCongress();
        due("lobby() of \"" + text + "\"", lobby(x, text), items);
        return x;
    }

    private static void fault(String text, int place) {
        HatCongress x = of(HAT, 1, 2);
        due("lobby() of \"" + text + "\"", lobby(x, text), -1 - place);
    }

    private static void traits(HatCongress x, int hat, int... want) {
        for (int what = 0; what < want.length; what++) {
            due("of(" + hat + ", " + what + ")", x.of(hat, what), want[what]);
        }
    }

    private static void numbers(HatCongress x, int s, long... want) {
        for (int i = 0; i < want.length; i++) {
            due("write(" + s + ", " + i + ", 0)", x.write(s, i, 0), want[i]);
        }
    }

    // ---- the terms

    private static void findings() {
        sentence(0, "FINDINGS are answers below -1000000000: -1000000001 BEYOND, -1000000002 FULL, -1000000003 KIND, "
            + "-1000000004 NONE, -1000000005 STATE, -1000000006 MISSING, -1000000007 SIZE (in longs, too).");
        HatCongress x = tenHats();
        due("now(8)", x.now(8), -1000000001);
        due("hat(0, 0)", x.hat(0, 0), -1000000002);
        due("as(0, 1)", x.as(0, 1), -1000000003);
        due("undo() of a new one", new HatCongress().undo(), -1000000004);
        due("sessions(1) in 99999", atSession(99999).sessions(1), -1000000005);
        due("lays(3)", x.lays(3), -1000000006);
        due("sheet(0, 8, -1)", x.sheet(0, 8, -1), -1000000007);
        due("write(4, 0, 0)", x.write(4, 0, 0), -1000000001L);
        due("write(3, 0, 0)", x.write(3, 0, 0), -1000000006L);

        sentence(0, "Each act tells its findings in the order in which they are asked; "
            + "one that answers a finding changes nothing but status().");
        refused(SentencesTest::tenHats, "hat(6, 0): BEYOND ahead of FULL", y -> y.hat(6, 0), BEYOND);
        refused(SentencesTest::tenHats, "hat(0, 256): BEYOND ahead of FULL", y -> y.hat(0, 256), BEYOND);
        refused("as(0, 6): BEYOND ahead of KIND", y -> y.as(0, 6), BEYOND);
        refused("as(3, 1): BEYOND ahead of KIND", y -> y.as(3, 1), BEYOND);
        refused(() -> atSession(99999), "sessions(0): BEYOND ahead of STATE", y -> y.sessions(0), BEYOND);
        refused(() -> atSession(99999), "sessions(101): BEYOND ahead of STATE", y -> y.sessions(101), BEYOND);
        refused(SentencesTest::noneOn, "lift(61): BEYOND ahead of NONE", y -> y.lift(61), BEYOND);
        refused("faith(0, 0, 9999): BEYOND ahead of NONE", y -> y.faith(0, 0, 9999), BEYOND);
        refused(HatCongress::new, "best(201): BEYOND ahead of NONE", y -> y.best(201), BEYOND);
        refused(HatCongress::new, "errs(0): BEYOND ahead of NONE", y -> y.errs(0), BEYOND);
        refused(SentencesTest::fullTape, "feed(0, 5): BEYOND ahead of FULL", y -> y.feed(0, 5), BEYOND);
        refused("sheet(4, 8, -1): BEYOND ahead of SIZE", y -> y.sheet(4, 8, -1), BEYOND);
        refused("sheet(0, 9, -1): BEYOND ahead of SIZE", y -> y.sheet(0, 9, -1), BEYOND);
        refused("write(3, -1, 0): MISSING ahead of BEYOND", y -> y.write(3, -1, 0), MISSING);
        refused("copy(3, 0, 4, 0, 0): BEYOND ahead of MISSING", y -> y.copy(3, 0, 4, 0, 0), BEYOND);
        refused("copy(0, 0, 3, 0, 0): MISSING ahead of KIND", y -> y.copy(0, 0, 3, 0, 0), MISSING);
        refused("copy(0, 0, 3, -1, 0): MISSING ahead of BEYOND", y -> y.copy(0, 0, 3, -1, 0), MISSING);
        refused("copy(0, -1, 1, 0, 9): KIND ahead of BEYOND", y -> y.copy(0, -1, 1, 0, 9), KIND);
        refused("book(3, 9): MISSING ahead of BEYOND", y -> y.book(3, 9), MISSING);
        refused("read(3, 9): MISSING ahead of BEYOND", y -> y.read(3, 9), MISSING);
    }

    private static void quotientsAndSets() {
        sentence(0, "Quotients are cut.");
        for (int[] r : new int[][] {{0, 1}, {1, 1}, {49, 1}, {50, 2}, {51, 2}, {99, 2}}) {
            due("of(0, 6) of a bowler with FAITH " + r[0], one(BOWLER, 0, 0, 0, r[0]).of(0, 6), r[1]);
        }

        sentence(0, "Sets are told by bits.");
        for (int q = 0; q < 8; q++) {
            HatCongress x = of(HAT, 1 << q);
            for (int other = 0; other < 8; other++) {
                due("says(0, " + other + ") with VIEW " + (1 << q), x.says(0, other), other == q ? 1 : 0);
            }
        }
        HatCongress ten = of(HAT, 0, 0, 0, 0, 0, 0, 0, 0, 0, 0);
        for (int h = 1; h < 9; h++) {
            ten.set(h, ON, 0);
        }
        due("now(6): 0 and 9 are ON", ten.now(6), 513);
    }

    private static void sessionAndSets() {
        sentence(0, "SESSION: 0 at first (99999 at most).");
        due("now(0)", new HatCongress().now(0), 0);
        HatCongress late = atSession(99998);
        late.sessions(1);
        due("now(0)", late.now(0), 99999);
        due("sessions(1)", late.sessions(1), STATE);
        due("now(0)", late.now(0), 99999);

        sentence(0, "QUESTIONS 0 to 7: that of a SESSION is its rest by 8.");
        HatCongress x = of(HAT, 0);
        for (int session = 0; session < 18; session++) {
            due("now(1) in SESSION " + session, x.now(1), session % 8);
            x.sessions(1);
        }
        due("says(0, 7)", x.says(0, 7), 1);
        due("says(0, 8)", x.says(0, 8), BEYOND);
        due("says(0, -1)", x.says(0, -1), BEYOND);

        sentence(0, "TRUTH: the set of those to which yes is true (170 at first).");
        due("now(2)", new HatCongress().now(2), 170);
        HatCongress yes = of(HAT, 255);
        yes.sessions(8);
        due("of(0, 2): yes was true to 1, 3, 5, 7", yes.of(0, RIGHT), 4);
        due("of(0, 1)", yes.of(0, VIEW), 254 & ~4 & ~16 & ~64);

        sentence(0, "HELD: the set of those to which the congress holds yes (none at first).");
        due("now(3)", new HatCongress().now(3), 0);
        HatCongress held = of(TOPPER, 200);
        held.set(0, WRONG, 1);
        due("sessions(8)", held.sessions(8), 200);
    }

    private static void hats() {
        sentence(0, "HATS 0, 1, .. (at most 10) are of KINDS: 0 HAT, 1 BOWLER under HAT, 2 CAP under HAT, "
            + "3 TOPPER under HAT, 4 DERBY under BOWLER, 5 BERET under CAP; each with a VIEW (the set of QUESTIONS to "
            + "which it would say yes: 0 to 255; 0 at first), RIGHT and WRONG (how often: 0 at first, held to 9999), "
            + "FAITH (0 to 99; 50 at first), and ON the table (1; at first) or off (0).");
        HatCongress x = new HatCongress();
        for (int h = 0; h < 10; h++) {
            due("lobby() of " + KINDS[h % 6], lobby(x, KINDS[h % 6]), 1);
            traits(x, h, h % 6, 0, 0, 0, 50, 1);
        }
        due("hat(0, 0), an 11th", x.hat(0, 0), FULL);
        due("of(10, 0)", x.of(10, 0), BEYOND);
        int[] most = {0, 255, 9999, 9999, 99, 1};
        for (int what = VIEW; what <= ON; what++) {
            due("set to 0", x.set(3, what, 0) < 0 ? 1 : 0, 0);
            due("set to the most", x.set(3, what, most[what]), 0);
            due("set to more", x.set(3, what, most[what] + 1), BEYOND);
            due("set to less", x.set(3, what, -1), BEYOND);
            due("of(3, " + what + ")", x.of(3, what), most[what]);
        }
        HatCongress held = of(HAT, 0, 1);
        held.set(0, RIGHT, 9998);
        held.set(1, WRONG, 9998);
        held.sessions(1);
        due("of(0, 2)", held.of(0, RIGHT), 9999);
        due("of(1, 3)", held.of(1, WRONG), 9999);
        held.set(0, VIEW, 2);
        held.set(1, VIEW, 0);
        held.sessions(1);
        due("of(0, 2), held to 9999", held.of(0, RIGHT), 9999);
        due("of(1, 3), held to 9999", held.of(1, WRONG), 9999);
    }

    /** What one says to question q with VIEW 10100101 and HELD 00111100. */
    private static void says(int kind, int right, int wrongs, int faith, int q, int want) {
        HatCongress x = one(kind, 165, right, wrongs, faith);
        x.holds(1, 60);
        due("says(0, " + q + ") of a " + KINDS[kind] + " with RIGHT " + right + ", WRONG " + wrongs + ", FAITH " + faith,
            x.says(0, q), want);
    }

    private static void says() {
        sentence(0, "SAYS (to QUESTION q; 1 yes, 0 no, -1 nothing): HAT: by its VIEW.");
        says(HAT, 0, 0, 50, 0, 1);
        says(HAT, 0, 0, 50, 1, 0);
        says(HAT, 0, 9999, 0, 0, 1);
        says(HAT, 0, 9999, 0, 3, 0);
        says(HAT, 0, 0, 50, 6, 0);
        says(HAT, 0, 0, 50, 7, 1);
        due("says(0, 0): nothing, of a topper", of(TOPPER, 1).says(0, 0), -1);

        sentence(0, "BOWLER: the other way round than as HAT, if WRONG is above RIGHT; else as HAT.");
        says(BOWLER, 0, 0, 50, 0, 1);
        says(BOWLER, 4, 4, 0, 0, 1);
        says(BOWLER, 4, 4, 0, 1, 0);
        says(BOWLER, 4, 5, 99, 0, 0);
        says(BOWLER, 4, 5, 99, 1, 1);
        says(BOWLER, 5, 4, 99, 0, 1);
        says(BOWLER, 9998, 9999, 0, 7, 0);
        says(BOWLER, 9999, 9999, 0, 7, 1);

        sentence(0, "CAP: what the congress holds, if FAITH is below 30; else as HAT.");
        says(CAP, 0, 0, 29, 0, 0);
        says(CAP, 0, 0, 29, 3, 1);
        says(CAP, 0, 0, 0, 7, 0);
        says(CAP, 0, 0, 30, 0, 1);
        says(CAP, 0, 0, 30, 3, 0);
        says(CAP, 0, 9, 30, 7, 1);

        sentence(0, "TOPPER: nothing, if WRONG is 0 and RIGHT is below 3; else as HAT.");
        says(TOPPER, 0, 0, 50, 0, -1);
        says(TOPPER, 2, 0, 99, 0, -1);
        says(TOPPER, 2, 0, 99, 1, -1);
        says(TOPPER, 3, 0, 0, 0, 1);
        says(TOPPER, 3, 0, 0, 1, 0);
        says(TOPPER, 0, 1, 50, 0, 1);
        says(TOPPER, 2, 1, 0, 1, 0);

        sentence(0, "DERBY: as BOWLER, but nothing, if FAITH is 0.");
        says(DERBY, 0, 0, 0, 0, -1);
        says(DERBY, 0, 5, 0, 1, -1);
        says(DERBY, 0, 0, 1, 0, 1);
        says(DERBY, 4, 4, 1, 1, 0);
        says(DERBY, 4, 5, 1, 0, 0);
        says(DERBY, 4, 5, 99, 1, 1);

        sentence(0, "BERET: as CAP, but yes, if q is 7.");
        says(BERET, 0, 0, 29, 0, 0);
        says(BERET, 0, 0, 29, 3, 1);
        says(BERET, 0, 0, 30, 0, 1);
        says(BERET, 0, 0, 30, 3, 0);
        says(BERET, 0, 0, 29, 6, 0);
        says(BERET, 0, 0, 0, 7, 1);
        due("says(0, 7) with VIEW 0", one(BERET, 0, 0, 0, 99).says(0, 7), 1);
        due("says(0, 6) with VIEW 0", one(BERET, 0, 0, 0, 99).says(0, 6), 0);
    }

    /** WEIGHS (what 6), LEARNS (7) or STIRS (8) of one in a session. */
    private static void trait(int what, int kind, int faith, int session, int want) {
        HatCongress x = of(kind, 9);
        x.set(0, ON, 0);
        if (session > 0) {
            x.sessions(session);
        }
        x.set(0, FAITH, faith);
        due("of(0, " + what + ") of a " + KINDS[kind] + " with FAITH " + faith + " in SESSION " + session,
            x.of(0, what), want);
    }

    private static void weighs() {
        sentence(0, "WEIGHS (how much its word counts): HAT: 1.");
        trait(6, HAT, 0, 0, 1);
        trait(6, HAT, 99, 1, 1);
        sentence(0, "BOWLER: as HAT, and FAITH by 50.");
        trait(6, BOWLER, 0, 0, 1);
        trait(6, BOWLER, 49, 1, 1);
        trait(6, BOWLER, 50, 1, 2);
        trait(6, BOWLER, 99, 0, 2);
        sentence(0, "CAP: as HAT.");
        trait(6, CAP, 0, 0, 1);
        trait(6, CAP, 99, 3, 1);
        sentence(0, "TOPPER: 3.");
        trait(6, TOPPER, 0, 0, 3);
        trait(6, TOPPER, 99, 1, 3);
        sentence(0, "DERBY: as BOWLER, twice that.");
        trait(6, DERBY, 0, 0, 2);
        trait(6, DERBY, 49, 1, 2);
        trait(6, DERBY, 50, 1, 4);
        trait(6, DERBY, 99, 0, 4);
        sentence(0, "BERET: as CAP, and 1 in SESSIONS whose rest by 3 is 0.");
        trait(6, BERET, 0, 0, 2);
        trait(6, BERET, 99, 1, 1);
        trait(6, BERET, 50, 2, 1);
        trait(6, BERET, 50, 3, 2);
        trait(6, BERET, 50, 99, 2);
        trait(6, BERET, 50, 100, 1);
    }

    private static void learns() {
        sentence(0, "LEARNS (whether it takes the TRUTH of the QUESTION into its VIEW, having been wrong): "
            + "HAT: if FAITH is 50 or more.");
        trait(7, HAT, 49, 0, 0);
        trait(7, HAT, 50, 0, 1);
        trait(7, HAT, 99, 1, 1);
        trait(7, HAT, 0, 2, 0);
        sentence(0, "BOWLER: yes.");
        trait(7, BOWLER, 0, 0, 1);
        trait(7, BOWLER, 99, 1, 1);
        sentence(0, "CAP: as HAT.");
        trait(7, CAP, 49, 0, 0);
        trait(7, CAP, 50, 1, 1);
        sentence(0, "TOPPER: no.");
        trait(7, TOPPER, 99, 0, 0);
        trait(7, TOPPER, 50, 1, 0);
        sentence(0, "DERBY: as BOWLER, but not in SESSIONS whose rest by 2 is 1.");
        trait(7, DERBY, 0, 0, 1);
        trait(7, DERBY, 99, 1, 0);
        trait(7, DERBY, 49, 2, 1);
        trait(7, DERBY, 50, 99, 0);
        sentence(0, "BERET: as CAP.");
        trait(7, BERET, 49, 0, 0);
        trait(7, BERET, 50, 0, 1);
        trait(7, BERET, 50, 1, 1);
    }

    private static void stirs() {
        sentence(0, "STIRS (FAITH more, having been right; less, having been wrong): HAT: 5.");
        trait(8, HAT, 50, 0, 5);
        trait(8, HAT, 0, 1, 5);
        sentence(0, "BOWLER: as HAT, less 2.");
        trait(8, BOWLER, 50, 0, 3);
        sentence(0, "CAP: as HAT, twice that.");
        trait(8, CAP, 50, 0, 10);
        sentence(0, "TOPPER: 1.");
        trait(8, TOPPER, 50, 0, 1);
        sentence(0, "DERBY: as BOWLER.");
        trait(8, DERBY, 50, 0, 3);
        trait(8, DERBY, 0, 1, 3);
        sentence(0, "BERET: as CAP, less 7.");
        trait(8, BERET, 50, 0, 3);
        sentence(0, "(Others as the KIND above.)");
        for (int kind = 0; kind < 6; kind++) {
            due("as(0, 0) of a " + KINDS[kind], of(kind, 77).as(0, HAT), 77);
        }
        due("as(0, 1) of a derby", of(DERBY, 77).as(0, BOWLER), 77);
        due("as(0, 2) of a beret", of(BERET, 77).as(0, CAP), 77);
    }

    private static void sessionGoes() {
        sentence(0, "A SESSION goes: what all HATS that are ON SAY to its QUESTION is found out first.");
        HatCongress cap = of(HAT, 255, 255);
        cap.hat(CAP, 255);
        cap.set(2, FAITH, 29);
        cap.holds(0, 255);
        due("sessions(1): two say yes, the cap no, as was held", cap.sessions(1), 1);
        due("of(2, 3): it is wrong by what it said", cap.of(2, WRONG), 1);
        due("of(2, 2)", cap.of(2, RIGHT), 0);
        HatCongress first = of(CAP, 255);
        first.hat(TOPPER, 255);
        first.set(0, FAITH, 0);
        first.set(1, WRONG, 1);
        due("sessions(1): by numbers, or the other way round", first.sessions(1), 1);
        due("of(0, 2): the cap said no, which is the TRUTH", first.of(0, RIGHT), 1);
        HatCongress off = of(HAT, 0, 255, 255);
        off.set(1, ON, 0);
        off.set(2, ON, 0);
        off.holds(1, 1);
        due("sessions(1): only one is ON", off.sessions(1), 0);

        sentence(0, "YES is what those WEIGH that SAY yes, NO what those WEIGH that SAY no.");
        HatCongress all = new HatCongress();
        for (int kind = 0; kind < 6; kind++) {
            all.hat(kind, 1);
        }
        due("now(4): 1, 2, 1, none, 4, 2", all.now(4), 10);
        due("now(5)", all.now(5), 0);
        for (int h = 0; h < 6; h++) {
            all.set(h, VIEW, 0);
            all.set(h, RIGHT, 3);
        }
        due("now(4)", all.now(4), 0);
        due("now(5): the topper, too", all.now(5), 13);

        sentence(0, "If YES is more: the congress holds yes to it; if NO is more: no; else it holds what it held.");
        for (int held = 0; held <= 1; held++) {
            HatCongress yes = of(HAT, 1, 1, 0);
            yes.holds(1, held);
            due("sessions(1): 2 to 1, held was " + held, yes.sessions(1), 1);
            HatCongress no = of(HAT, 1, 0, 0);
            no.holds(1, held);
            due("sessions(1): 1 to 2, held was " + held, no.sessions(1), 0);
            HatCongress even = of(HAT, 1, 0);
            even.holds(1, held);
            due("sessions(1): 1 to 1, held was " + held, even.sessions(1), held);
            HatCongress none = new HatCongress();
            none.holds(1, held);
            due("sessions(1): none to none, held was " + held, none.sessions(1), held);
        }
        HatCongress others = of(HAT, 0);
        others.holds(1, 255);
        due("sessions(1): to other QUESTIONS it holds what it held", others.sessions(1), 254);
    }

    /** One is asked question 0, whose TRUTH is no, in SESSION 0. */
    private static void judged(int kind, int view, int faithBefore, int faithAfter, int viewAfter) {
        HatCongress x = one(kind, view, 3, 3, faithBefore);
        x.sessions(1);
        String who = "a " + KINDS[kind] + " with FAITH " + faithBefore + " and VIEW " + view + " has ";
        due(who + "FAITH", x.of(0, FAITH), faithAfter);
        due(who + "VIEW", x.of(0, VIEW), viewAfter);
        due(who + "RIGHT", x.of(0, RIGHT), view % 2 == 0 ? 4 : 3);
        due(who + "WRONG", x.of(0, WRONG), view % 2 == 0 ? 3 : 4);
    }

    private static void sessionJudges() {
        sentence(0, "Then HATS that are ON, by numbers, that SAID yes or no: if that is the TRUTH: RIGHT is 1 more, "
            + "FAITH what it STIRS more (99 at most); else WRONG is 1 more, FAITH what it STIRS less (0 at least), and if "
            + "it LEARNS (by FAITH as it was ahead of that), its VIEW of that QUESTION is the TRUTH.");
        judged(HAT, 254, 0, 5, 254);
        judged(HAT, 254, 93, 98, 254);
        judged(HAT, 254, 94, 99, 254);
        judged(HAT, 254, 95, 99, 254);
        judged(HAT, 254, 99, 99, 254);
        judged(HAT, 255, 6, 1, 255);
        judged(HAT, 255, 5, 0, 255);
        judged(HAT, 255, 4, 0, 255);
        judged(HAT, 255, 0, 0, 255);
        judged(HAT, 255, 49, 44, 255);
        judged(HAT, 255, 50, 45, 254);
        judged(BOWLER, 255, 2, 0, 254);
        judged(BOWLER, 254, 97, 99, 254);
        judged(CAP, 255, 49, 39, 255);
        judged(CAP, 255, 50, 40, 254);
        judged(CAP, 254, 90, 99, 254);
        judged(TOPPER, 255, 99, 98, 255);
        judged(TOPPER, 255, 0, 0, 255);
        judged(TOPPER, 254, 99, 99, 254);
        judged(DERBY, 255, 1, 0, 254);
        judged(BERET, 255, 49, 46, 255);
        judged(BERET, 255, 50, 47, 254);
        HatCongress yes = of(HAT, 0);
        yes.holds(0, 1);
        yes.sessions(1);
        traits(yes, 0, HAT, 1, 0, 1, 45, 1);
        HatCongress silent = of(TOPPER, 255);
        silent.sessions(1);
        traits(silent, 0, TOPPER, 255, 0, 0, 50, 1);
        HatCongress off = of(HAT, 255);
        off.set(0, ON, 0);
        off.sessions(1);
        traits(off, 0, HAT, 255, 0, 0, 50, 0);

        sentence(0, "SESSION is 1 more.");
        HatCongress x = new HatCongress();
        for (int session = 0; session < 9; session++) {
            due("now(0)", x.now(0), session);
            x.sessions(1);
        }
    }

    private static void tokens() {
        sentence(0, "THE TEXT of a LOBBY, from THE TAPE (bytes, at most 120).");
        HatCongress x = new HatCongress();
        feed(x, padded("truth 5;", 114) + "hat of");
        due("count(1)", x.count(1), 120);
        due("feed(102, 1), a byte more", x.feed('f', 1), FULL);
        due("lobby(): its 120 bytes alone count", x.lobby(), -119);
        due("lobby() of 120 bytes", lobby(x, padded("truth 5;", 113) + "hat off"), 2);
        due("now(2)", x.now(2), 5);
        due("of(0, 5)", x.of(0, ON), 0);
        StringBuilder many = new StringBuilder("truth 4");
        for (int i = 0; i < 14; i++) {
            many.append(";truth ").append(i % 10);
        }
        due("lobby() of 119 bytes", lobby(x, many.toString()), 15);
        due("now(2): the last of them", x.now(2), 3);

        sentence(0, "TOKENS, each as long as can be: WORDS (letters a to z), NUMBERS (digits, 999 at most), SIGN ; ; "
            + "blanks may stand between.");
        due("now(2)", comesTo("truth 190", 1).now(2), 190);
        due("now(2)", comesTo("truth190", 1).now(2), 190);
        due("now(2)", comesTo("   truth   27   ", 1).now(2), 27);
        due("now(2)", comesTo("truth 38;truth 46", 2).now(2), 46);
        due("now(2)", comesTo(" truth 38 ; truth 5 ", 2).now(2), 5);
        traits(comesTo("hat view1faith2off", 1), 0, HAT, 1, 0, 0, 2, 0);
        due("now(2)", comesTo("truth 0255", 1).now(2), 255);
        fault("hathat", 0);
        fault("hatview 1", 0);
        fault("hata", 0);
        fault("hatz", 0);
        fault("hat`", 3);
        fault("hat{", 3);
        fault("h at", 0);
        fault("`hat", 0);
        fault("{hat", 0);
        fault("truth 1 2", 8);
        fault("truth /1", 6);
        fault("truth :1", 6);
        fault("truth 1/", 7);
        fault("truth 1:", 7);
        fault("truth 999", 6);
        fault("truth 1000", 6);
        fault("truth 4294967297", 6);
        fault("truth 18446744073709551617", 6);
        fault("hat\t", 3);
        fault("hat\n", 3);
        fault("hat" + (char) 0, 3);
        fault("hat" + (char) 160, 3);

        sentence(0, "TEXT: ITEM { ; ITEM }.");
        comesTo("hat", 1);
        comesTo("hat;hat", 2);
        comesTo("hat;hat;hat", 3);
        fault("", 0);
        fault(";", 0);
        fault("hat;", 4);
        fault(";hat", 0);
        fault("hat;;hat", 4);
        fault("hat hat", 4);
    }

    private static void items() {
        sentence(0, "ITEM: the name of a KIND (hat bowler cap topper derby beret), perhaps view and a NUMBER (0 to 255), "
            + "perhaps faith and a NUMBER (0 to 99), perhaps off: one more; truth and a NUMBER (0 to 255); holds, a NUMBER "
            + "(a QUESTION), yes or no: the congress does; lift, a NUMBER (one there by then): it is off.");
        for (int kind = 0; kind < 6; kind++) {
            traits(comesTo(KINDS[kind], 1), 0, kind, 0, 0, 0, 50, 1);
            traits(comesTo(KINDS[kind] + " view 0 faith 0 off", 1), 0, kind, 0, 0, 0, 0, 0);
            traits(comesTo(KINDS[kind] + " view 255 faith 99", 1), 0, kind, 255, 0, 0, 99, 1);
            traits(comesTo(KINDS[kind] + " faith 7 off", 1), 0, kind, 0, 0, 0, 7, 0);
            traits(comesTo(KINDS[kind] + " view 7 off", 1), 0, kind, 7, 0, 0, 50, 0);
            traits(comesTo(KINDS[kind] + " off", 1), 0, kind, 0, 0, 0, 50, 0);
        }
        fault("hat view 256", 9);
        fault("hat faith 100", 10);
        fault("hat faith 1 view 1", 12);
        fault("hat off faith 1", 8);
        fault("hat view 1 view 1", 11);
        fault("hat off off", 8);
        fault("hat on", 4);
        due("now(2)", comesTo("truth 0", 1).now(2), 0);
        due("now(2)", comesTo("truth 255", 1).now(2), 255);
        fault("truth 256", 6);
        due("now(3)", comesTo("holds 0 yes", 1).now(3), 1);
        due("now(3)", comesTo("holds 7 yes", 1).now(3), 128);
        due("now(3)", comesTo("holds 0 yes;holds 7 yes;holds 0 no", 3).now(3), 128);
        due("now(3)", comesTo("holds 3 no", 1).now(3), 0);
        due("now(3), held already", comesTo("holds 3 yes;holds 3 yes", 2).now(3), 8);
        due("now(6), off already", comesTo("hat;lift 0;lift 0", 3).now(6), 0);
        fault("holds 8 yes", 6);
        fault("holds 0 maybe", 8);
        due("now(6)", comesTo("hat;hat;lift 0", 3).now(6), 2);
        due("now(6)", comesTo("hat;hat;lift 1", 3).now(6), 1);
        due("now(6)", comesTo("hat off;lift 0", 2).now(6), 0);
        fault("hat;lift 3", 9);
        due("lobby(): none there", lobby(new HatCongress(), "lift 0"), -6);
        due("lobby(): not there by then", lobby(new HatCongress(), "lift 0;hat"), -6);
        HatCongress ten = of(HAT, 0, 0, 0, 0, 0, 0, 0, 0, 0, 0);
        due("lobby(): the tenth", lobby(ten, "lift 9"), 1);
        due("now(6)", ten.now(6), 511);
        due("lobby(): an eleventh", lobby(ten, "lift 10"), -6);
    }

    private static void faultsOfTexts() {
        sentence(0, "FAULT: the place (from 0) of the first byte of the first TOKEN that can't stand there (a NUMBER that "
            + "may not be, another WORD, a byte that begins no TOKEN, the name of a KIND for an 11th: its own), or how many "
            + "bytes there are if it ends too early.");
        fault("5", 0);
        fault("  hut", 2);
        fault("bat", 0);
        fault("hot", 0);
        fault("had", 0);
        fault("ha", 0);
        fault("hats", 0);
        fault("hat wiew 1", 4);
        fault("hat views 1", 4);
        fault("hat taith 1", 4);
        fault("hat faiths 1", 4);
        fault("hat iff", 4);
        fault("hat of", 4);
        fault("bruth 1", 0);
        fault("folds 1 yes", 0);
        fault("gift 0", 0);
        fault("holds 1 des", 8);
        fault("holds 1 go", 8);
        fault("holds 1 yesno", 8);
        fault("hat view 300;hut", 9);
        fault("hat faith 300", 10);
        fault("holds 9 yes", 6);
        fault("lift 2", 5);
        fault("truth 1;hut", 8);
        fault("hat yes", 4);
        fault("truth yes", 6);
        fault("holds yes", 6);
        fault("holds 1 1", 8);
        fault("holds 1 yes yes", 12);
        fault("lift hat", 5);
        fault("lift 1 off", 7);
        fault("hat view view 1", 9);
        fault("hat view;", 8);
        fault("Hat", 0);
        fault("hat view -1", 9);
        fault("hat,hat", 3);
        fault("hat " + (char) 255, 4);
        HatCongress nine = of(HAT, 0, 0, 0, 0, 0, 0, 0, 0, 0);
        due("lobby(): an 11th", lobby(nine, "truth 1;hat; beret off"), -14);
        HatCongress ten = of(HAT, 0, 0, 0, 0, 0, 0, 0, 0, 0, 0);
        due("lobby(): an 11th", lobby(ten, " cap"), -2);
        due("lobby(): another WORD", lobby(ten, "truth 1; cup"), -10);
        fault("", 0);
        fault("    ", 4);
        fault("hat view", 8);
        fault("hat view   ", 11);
        fault("hat faith", 9);
        fault("truth", 5);
        fault("holds", 5);
        fault("holds 1", 7);
        fault("holds 1 ", 8);
        fault("lift", 4);
        fault("hat; ", 5);
    }

    private static void aheadAndSheets() {
        sentence(0, "AHEAD: n SESSIONS go on with all as it is; nothing changes.");
        changesNothing("on(0, 200, 0)", x -> x.on(0, 200, 0));
        changesNothing("then(200, 1)", x -> x.then(200, 1));
        changesNothing("comes(0, 0)", x -> x.comes(0, 0));
        changesNothing("lift(60)", x -> x.lift(60));
        changesNothing("kind(1, 60)", x -> x.kind(1, 60));
        changesNothing("view(1, 32)", x -> x.view(1, 32));
        changesNothing("faith(0, 60, 1)", x -> x.faith(0, 60, 1));
        changesNothing(SentencesTest::oneIsOn, "wise()", x -> x.wise());
        changesNothing(SentencesTest::oneIsOn, "errs(0)", x -> x.errs(0));
        changesNothing(SentencesTest::oneIsOn, "swing()", x -> x.swing());
        changesNothing("revise(60)", x -> x.revise(60));
        changesNothing("best(200)", x -> x.best(200));
        changesNothing("read(0, 0)", x -> x.read(0, 0));
        HatCongress x = furnished();
        int held = x.then(60, 0);
        int right = x.on(1, 60, 1);
        due("sessions(60)", x.sessions(60), held);
        due("of(1, 2)", x.of(1, RIGHT), right);

        sentence(0, "TRUE ONES: QUESTIONS to which the congress holds the TRUTH.");
        for (int[] r : new int[][] {{0, 0, 255}, {255, 255, 255}, {255, 0, 0}, {0, 255, 0}, {240, 60, 51}, {128, 0, 127}}) {
            HatCongress y = new HatCongress();
            y.holds(0, r[0]);
            y.holds(1, r[1]);
            due("now(7) with TRUTH " + r[0] + ", HELD " + r[1], y.now(7), r[2]);
        }

        sentence(0, "SHEETS 0 to 3 are rows of at most 40 numbers of 8, 16 or 64 bits, or MISSING (at first).");
        HatCongress s = new HatCongress();
        due("lays(-1)", s.lays(-1), BEYOND);
        due("lays(4)", s.lays(4), BEYOND);
        for (int i = 0; i < 4; i++) {
            due("lays(" + i + "), at first", s.lays(i), MISSING);
            due("sheet(.., 8, 40)", s.sheet(i, 8, 40), 40);
            due("sheet(.., 16, 41)", s.sheet(i, 16, 41), BEYOND);
            due("sheet(.., 16, 40)", s.sheet(i, 16, 40), 40);
            due("sheet(.., 64, 41)", s.sheet(i, 64, 41), BEYOND);
            due("sheet(.., 64, 40)", s.sheet(i, 64, 40), 40);
            due("sheet(.., 8, 41)", s.sheet(i, 8, 41), BEYOND);
        }
    }

    // ---- the congress

    private static void newObject() {
        sentence(1, "No HATS; THE TAPE is empty, no image is kept.");
        due("count(0)", new HatCongress().count(0), 0);
        due("of(0, 0)", new HatCongress().of(0, 0), BEYOND);
        due("now(6)", new HatCongress().now(6), 0);
        due("count(1)", new HatCongress().count(1), 0);
        due("wipe()", new HatCongress().wipe(), 0);
        due("lobby(): it ends too early", new HatCongress().lobby(), -1);
        due("undo()", new HatCongress().undo(), NONE);
        due("tear()", new HatCongress().tear(), 0);
        due("hat(0, 0), the first", new HatCongress().hat(0, 0), 0);
        for (int which = -1; which < 7; which++) {
            due("status(" + which + ")", new HatCongress().status(which), 0);
        }
    }

    private static void holds() {
        sentence(2, "TRUTH (what 0), HELD (1) becomes a set (0 to 255): what it was.");
        HatCongress x = new HatCongress();
        due("holds(0, 0)", x.holds(0, 0), 170);
        due("holds(0, 255)", x.holds(0, 255), 0);
        due("holds(0, 1)", x.holds(0, 1), 255);
        due("now(2)", x.now(2), 1);
        due("now(3)", x.now(3), 0);
        due("holds(1, 255)", x.holds(1, 255), 0);
        due("holds(1, 0)", x.holds(1, 0), 255);
        due("holds(1, 128)", x.holds(1, 128), 0);
        due("now(3)", x.now(3), 128);
        due("now(2)", x.now(2), 1);

        sentence(2, "BEYOND.");
        for (int what : outside(0, 1)) {
            refused("holds(" + what + ", 0)", y -> y.holds(what, 0), BEYOND);
        }
        for (int set : outside(0, 255)) {
            refused("holds(0, " + set + ")", y -> y.holds(0, set), BEYOND);
            refused("holds(1, " + set + ")", y -> y.holds(1, set), BEYOND);
        }
    }

    private static void now() {
        sentence(3, "What 0 SESSION, 1 its QUESTION, 2 TRUTH, 3 HELD, 4 YES, 5 NO of this SESSION, 6 what is ON, "
            + "7 TRUE ONES, as sets.");
        HatCongress none = new HatCongress();
        HatCongress x = of(HAT, 4, 0, 0, 0);
        x.hat(TOPPER, 4);
        x.set(2, ON, 0);
        x.sessions(10);
        x.holds(0, 240);
        x.holds(1, 60);
        for (int h = 0; h < 5; h++) {
            x.set(h, VIEW, h % 2 == 0 ? 4 : 0);
        }
        int[] first = {0, 0, 170, 0, 0, 0, 0, 85};
        int[] then = {10, 2, 240, 60, 1, 2, 27, 51};
        for (int what = 7; what >= 0; what--) {
            due("now(" + what + ") of a new one", none.now(what), first[what]);
            due("now(" + what + ")", x.now(what), then[what]);
        }
        due("now(6) of ten", of(HAT, 0, 0, 0, 0, 0, 0, 0, 0, 0, 0).now(6), 1023);

        sentence(3, "BEYOND.");
        for (int what : outside(0, 7)) {
            refused("now(" + what + ")", y -> y.now(what), BEYOND);
        }
    }

    // ---- hats

    private static void hat() {
        sentence(4, "One more with a VIEW, ON: the number.");
        HatCongress x = new HatCongress();
        for (int h = 0; h < 10; h++) {
            int view = h == 0 ? 0 : h == 9 ? 255 : 20 * h;
            due("hat(" + h % 6 + ", " + view + ")", x.hat(h % 6, view), h);
            traits(x, h, h % 6, view, 0, 0, 50, 1);
        }
        due("hat(5, 0)", of(BERET, 0).of(0, 0), 5);

        sentence(4, "BEYOND: kind, view.");
        for (int kind : outside(0, 5)) {
            refused("hat(" + kind + ", 0)", y -> y.hat(kind, 0), BEYOND);
        }
        for (int view : outside(0, 255)) {
            refused("hat(0, " + view + ")", y -> y.hat(0, view), BEYOND);
        }

        sentence(4, "FULL.");
        HatCongress nine = of(HAT, 0, 0, 0, 0, 0, 0, 0, 0, 0);
        due("hat(0, 0), the tenth", nine.hat(0, 0), 9);
        refused(SentencesTest::tenHats, "hat(0, 0), an eleventh", y -> y.hat(0, 0), FULL);
        refused(SentencesTest::noneOnOfTen, "hat(5, 255), though none is ON", y -> y.hat(5, 255), FULL);
    }

    private static HatCongress noneOnOfTen() {
        HatCongress x = tenHats();
        for (int h = 0; h < 10; h++) {
            x.set(h, ON, 0);
        }
        return x;
    }

    private static void of() {
        sentence(5, "Of one: what 0 KIND, 1 VIEW, 2 RIGHT, 3 WRONG, 4 FAITH, 5 ON, 6 WEIGHS in this SESSION, "
            + "7 1 if it LEARNS in this SESSION, having been wrong, else 0, 8 STIRS.");
        HatCongress x = one(BERET, 9, 7, 8, 49);
        traits(x, 0, BERET, 9, 7, 8, 49, 1, 2, 0, 3);
        x.set(0, ON, 0);
        x.set(0, FAITH, 50);
        x.sessions(1);
        traits(x, 0, BERET, 9, 7, 8, 50, 0, 1, 1, 3);
        HatCongress derby = one(DERBY, 255, 0, 9999, 99);
        traits(derby, 0, DERBY, 255, 0, 9999, 99, 1, 4, 1, 3);
        derby.set(0, ON, 0);
        derby.sessions(1);
        traits(derby, 0, DERBY, 255, 0, 9999, 99, 0, 4, 0, 3);
        HatCongress ten = of(CAP, 0, 1, 2, 3, 4, 5, 6, 7, 8, 9);
        traits(ten, 9, CAP, 9, 0, 0, 50, 1, 1, 1, 10);

        sentence(5, "BEYOND.");
        for (int hat : outside(0, 2)) {
            refused("of(" + hat + ", 0)", y -> y.of(hat, 0), BEYOND);
        }
        for (int what : outside(0, 8)) {
            refused("of(0, " + what + ")", y -> y.of(0, what), BEYOND);
        }
        refused(HatCongress::new, "of(0, 0) of none", y -> y.of(0, 0), BEYOND);
        refused(SentencesTest::tenHats, "of(10, 0) of ten", y -> y.of(10, 0), BEYOND);
    }

    private static void saysOfOne() {
        sentence(6, "What one SAYS to a QUESTION (1, 0, -1), as all is.");
        HatCongress x = of(HAT, 129);
        x.hat(TOPPER, 255);
        x.hat(CAP, 255);
        due("says(0, 0)", x.says(0, 0), 1);
        due("says(0, 1)", x.says(0, 1), 0);
        due("says(0, 7)", x.says(0, 7), 1);
        due("says(1, 7)", x.says(1, 7), -1);
        x.set(0, ON, 0);
        due("says(0, 0), off", x.says(0, 0), 1);
        x.set(2, FAITH, 0);
        due("says(2, 5), as is held", x.says(2, 5), 0);
        x.holds(1, 32);
        due("says(2, 5), as is held", x.says(2, 5), 1);

        sentence(6, "BEYOND.");
        for (int hat : outside(0, 2)) {
            refused("says(" + hat + ", 0)", y -> y.says(hat, 0), BEYOND);
        }
        for (int question : outside(0, 7)) {
            refused("says(0, " + question + ")", y -> y.says(0, question), BEYOND);
        }
        refused(HatCongress::new, "says(0, 0) of none", y -> y.says(0, 0), BEYOND);
    }

    private static void set() {
        sentence(7, "VIEW (what 1), RIGHT (2), WRONG (3), FAITH (4), ON (5) of one becomes v: what it was.");
        int[] first = {0, 7, 0, 0, 50, 1};
        int[] most = {0, 255, 9999, 9999, 99, 1};
        for (int what = VIEW; what <= ON; what++) {
            HatCongress x = of(HAT, 8, 7);
            String call = "set(1, " + what + ", ";
            due(call + most[what] + ")", x.set(1, what, most[what]), first[what]);
            due("of(1, " + what + ")", x.of(1, what), most[what]);
            due(call + "0)", x.set(1, what, 0), most[what]);
            due(call + "1)", x.set(1, what, 1), 0);
            for (int other = 0; other <= ON; other++) {
                due("of(1, " + other + ")", x.of(1, other), other == what ? 1 : first[other]);
                due("of(0, " + other + ")", x.of(0, other), other == VIEW ? 8 : first[other]);
            }
        }

        sentence(7, "BEYOND.");
        for (int hat : outside(0, 2)) {
            refused("set(" + hat + ", 1, 0)", y -> y.set(hat, 1, 0), BEYOND);
        }
        for (int what : outside(1, 5)) {
            refused("set(0, " + what + ", 0)", y -> y.set(0, what, 0), BEYOND);
        }
        for (int what = VIEW; what <= ON; what++) {
            int which = what;
            for (int v : outside(0, most[what])) {
                refused("set(1, " + what + ", " + v + ")", y -> y.set(1, which, v), BEYOND);
            }
        }
    }

    private static void turn() {
        sentence(8, "One becomes one of another KIND: what it was.");
        for (int from = 0; from < 6; from++) {
            for (int to = 0; to < 6; to++) {
                HatCongress x = one(from, 7, 4, 5, 6);
                due("turn(0, " + to + ") of a " + KINDS[from], x.turn(0, to), from);
                traits(x, 0, to, 7, 4, 5, 6, 1);
            }
        }

        sentence(8, "BEYOND.");
        for (int hat : outside(0, 2)) {
            refused("turn(" + hat + ", 0)", y -> y.turn(hat, 0), BEYOND);
        }
        for (int kind : outside(0, 5)) {
            refused("turn(0, " + kind + ")", y -> y.turn(0, kind), BEYOND);
        }
    }

    private static void as() {
        String[] may = {"100000", "110000", "101000", "100100", "110010", "101001"};
        sentence(9, "One as one of a kind: VIEW.");
        for (int own = 0; own < 6; own++) {
            for (int kind = 0; kind < 6; kind++) {
                if (may[own].charAt(kind) == '1') {
                    due("as(0, " + kind + ") of a " + KINDS[own], of(own, 250 + own).as(0, kind), 250 + own);
                }
            }
        }
        due("as(0, 0) with VIEW 0", of(DERBY, 0).as(0, 0), 0);

        sentence(9, "BEYOND: no such one, kind.");
        for (int hat : outside(0, 2)) {
            refused("as(" + hat + ", 0)", y -> y.as(hat, 0), BEYOND);
        }
        for (int kind : outside(0, 5)) {
            refused("as(0, " + kind + ")", y -> y.as(0, kind), BEYOND);
        }

        sentence(9, "KIND: it isn't of that kind, nor of one under it.");
        for (int own = 0; own < 6; own++) {
            for (int kind = 0; kind < 6; kind++) {
                if (may[own].charAt(kind) == '0') {
                    int is = own;
                    int asked = kind;
                    refused(() -> of(is, 9), "as(0, " + kind + ") of a " + KINDS[own], y -> y.as(0, asked), KIND);
                }
            }
        }
    }

    // ---- sessions

    private static void sessions() {
        sentence(10, "n SESSIONS go (1 to 100): HELD then.");
        HatCongress x = of(HAT, 0);
        x.holds(1, 3);
        due("sessions(1)", x.sessions(1), 2);
        due("now(0)", x.now(0), 1);
        due("sessions(1)", x.sessions(1), 0);
        due("sessions(100)", x.sessions(100), 170);
        due("now(0)", x.now(0), 102);
        due("of(0, 2)", x.of(0, RIGHT) + x.of(0, WRONG), 102);
        due("now(3)", x.now(3), 170);

        sentence(10, "BEYOND.");
        for (int n : outside(1, 100)) {
            refused("sessions(" + n + ")", y -> y.sessions(n), BEYOND);
        }

        sentence(10, "STATE: SESSION would be above 99999.");
        refused(() -> atSession(99999), "sessions(1) in 99999", y -> y.sessions(1), STATE);
        refused(() -> atSession(99950), "sessions(50) in 99950", y -> y.sessions(50), STATE);
        refused(() -> atSession(99900), "sessions(100) in 99900", y -> y.sessions(100), STATE);
        for (int n : new int[] {1, 49, 100}) {
            HatCongress last = atSession(99999 - n);
            last.sessions(n);
            due("now(0): no more than it may be", last.now(0), 99999);
        }
    }

    private static void on() {
        sentence(11, "VIEW (what 0), RIGHT (1), WRONG (2), FAITH (3) of one n SESSIONS (0 to 200) AHEAD.");
        HatCongress x = of(TOPPER, 0);
        x.hat(HAT, 0);
        int[][] rows = {{0, 0, 0, 0, 50}, {1, 0, 1, 0, 55}, {2, 2, 1, 1, 50}, {16, 170, 12, 4, 90},
            {199, 170, 195, 4, 99}, {200, 170, 196, 4, 99}};
        for (int[] r : rows) {
            for (int what = 0; what < 4; what++) {
                due("on(1, " + r[0] + ", " + what + ")", x.on(1, r[0], what), r[what + 1]);
            }
        }

        sentence(11, "BEYOND.");
        for (int hat : outside(0, 2)) {
            refused("on(" + hat + ", 0, 0)", y -> y.on(hat, 0, 0), BEYOND);
        }
        for (int n : outside(0, 200)) {
            refused("on(0, " + n + ", 0)", y -> y.on(0, n, 0), BEYOND);
        }
        for (int what : outside(0, 3)) {
            refused("on(0, 0, " + what + ")", y -> y.on(0, 0, what), BEYOND);
        }
    }

    private static void then() {
        sentence(12, "HELD (what 0), TRUE ONES (1), as sets, n SESSIONS (0 to 200) AHEAD.");
        HatCongress x = of(HAT, 0);
        x.holds(1, 15);
        for (int[] r : new int[][] {{0, 15, 90}, {1, 14, 91}, {2, 12, 89}, {8, 0, 85}, {10, 2, 87}, {200, 170, 255}}) {
            due("then(" + r[0] + ", 0)", x.then(r[0], 0), r[1]);
            due("then(" + r[0] + ", 1)", x.then(r[0], 1), r[2]);
        }
        HatCongress late = reversed(0, 199);
        due("then(199, 0)", late.then(199, 0), 255);
        due("then(200, 0): wrong in the 200th", late.then(200, 0), 127);
        due("then(200, 1)", late.then(200, 1), 127);

        sentence(12, "BEYOND.");
        for (int n : outside(0, 200)) {
            refused("then(" + n + ", 0)", y -> y.then(n, 0), BEYOND);
        }
        for (int what : outside(0, 1)) {
            refused("then(0, " + what + ")", y -> y.then(0, what), BEYOND);
        }
    }

    private static HatCongress reversedHolding(int wrongs) {
        HatCongress x = reversed(0, wrongs);
        x.holds(1, 255);
        return x;
    }

    private static void comes() {
        sentence(13, "In how many SESSIONS (0 to 200) the congress holds yes (v 1) or no (0) to a QUESTION first.");
        HatCongress x = of(HAT, 0);
        due("comes(0, 0), as it is", x.comes(0, 0), 0);
        due("comes(7, 0), as it is", x.comes(7, 0), 0);
        due("comes(1, 1)", x.comes(1, 1), 10);
        due("comes(7, 1)", x.comes(7, 1), 16);
        x.holds(1, 1);
        due("comes(0, 1), as it is", x.comes(0, 1), 0);
        due("comes(0, 0), in the first", x.comes(0, 0), 1);
        due("comes(7, 0), in the 200th", reversedHolding(199).comes(7, 0), 200);
        due("comes(6, 0), in the 199th", reversedHolding(198).comes(6, 0), 199);

        sentence(13, "BEYOND.");
        for (int question : outside(0, 7)) {
            refused("comes(" + question + ", 0)", y -> y.comes(question, 0), BEYOND);
        }
        for (int v : outside(0, 1)) {
            refused("comes(0, " + v + ")", y -> y.comes(0, v), BEYOND);
        }

        sentence(13, "NONE.");
        refused(() -> reversedHolding(200), "comes(0, 0), in the 201st", y -> y.comes(0, 0), NONE);
        refused(HatCongress::new, "comes(0, 1) of none", y -> y.comes(0, 1), NONE);
        refused(() -> of(HAT, 0), "comes(0, 1), which is never said", y -> y.comes(0, 1), NONE);
    }

    private static void wise() {
        sentence(14, "In how many SESSIONS (0 to 200) all are TRUE ONES first.");
        HatCongress x = of(HAT, 0);
        due("wise()", x.wise(), 16);
        x.holds(1, 170);
        due("wise(), as it is", x.wise(), 0);
        x.holds(1, 171);
        due("wise(), in the first", x.wise(), 1);
        HatCongress none = new HatCongress();
        none.holds(1, 170);
        due("wise() of none", none.wise(), 0);
        // Right of all but question 7, 6 more often than wrong in each 8 sessions, till it is reversed no more.
        due("wise(), in the 200th", reversed(128, 151).wise(), 200);

        sentence(14, "NONE.");
        refused(() -> reversed(128, 152), "wise(), later than the 200th", y -> y.wise(), NONE);
        refused(HatCongress::new, "wise() of none", y -> y.wise(), NONE);
    }

    private static void errs() {
        sentence(15, "In how many SESSIONS (1 to 200) one is WRONG next (WRONG is more).");
        HatCongress x = of(HAT, 1, 0, 170);
        due("errs(0), in the first", x.errs(0), 1);
        due("errs(1)", x.errs(1), 2);
        x.set(0, WRONG, 9998);
        due("errs(0), the last time", x.errs(0), 1);
        x.set(1, WRONG, 7);
        due("errs(1), wrong before", x.errs(1), 2);
        due("errs(0), in the 199th", reversed(0, 198).errs(0), 199);
        due("errs(0), in the 200th", reversed(0, 199).errs(0), 200);

        sentence(15, "BEYOND.");
        for (int hat : outside(0, 2)) {
            refused("errs(" + hat + ")", y -> y.errs(hat), BEYOND);
        }
        refused(SentencesTest::tenHats, "errs(10) of ten", y -> y.errs(10), BEYOND);

        sentence(15, "NONE.");
        refused(() -> reversed(0, 200), "errs(0), in the 201st", y -> y.errs(0), NONE);
        refused(() -> of(HAT, 170), "errs(0), always right", y -> y.errs(0), NONE);
        refused(() -> of(TOPPER, 255), "errs(0), which says nothing", y -> y.errs(0), NONE);
        refused(() -> one(TOPPER, 85, 0, 9999, 50), "errs(0), WRONG can't be more", y -> y.errs(0), NONE);
        refused(SentencesTest::noneOn, "errs(0), off", y -> y.errs(0), NONE);
    }

    // ---- what is best

    /** Two: a bowler, right of all for 59 sessions and wrong in the 60th; a topper, wrong of question 7 alone. */
    private static HatCongress bowlerAndTopper() {
        HatCongress x = reversed(0, 59);
        x.hat(TOPPER, 127);
        x.set(1, WRONG, 1);
        return x;
    }

    private static void lift() {
        sentence(16, "Which one, off now (one that is ON), lets the congress hold most TRUE ONES n SESSIONS (1 to 60) "
            + "AHEAD; of several the least.");
        HatCongress x = of(HAT, 0, 1);
        x.holds(1, 1);
        due("lift(1), the one that is wrong", x.lift(1), 1);
        x.set(1, VIEW, 0);
        due("lift(1), of several the least", x.lift(1), 0);
        x.hat(HAT, 0);
        x.set(0, ON, 0);
        due("lift(1), the least that is ON", x.lift(1), 1);
        x.set(1, ON, 0);
        due("lift(1), the only one", x.lift(1), 2);
        due("lift(60), the only one", x.lift(60), 2);
        HatCongress ten = of(HAT, 0, 0, 0, 0, 0, 0, 0, 0, 0, 1);
        for (int h = 1; h < 9; h++) {
            ten.set(h, ON, 0);
        }
        ten.holds(1, 1);
        due("lift(1), the tenth", ten.lift(1), 9);
        due("lift(59)", bowlerAndTopper().lift(59), 1);
        due("lift(60)", bowlerAndTopper().lift(60), 0);
        HatCongress fools = of(HAT, 1, 1);
        fools.holds(0, 0);
        fools.holds(1, 255);
        due("lift(1), no TRUE ONES at all", fools.lift(1), 0);

        sentence(16, "BEYOND.");
        for (int n : outside(1, 60)) {
            refused("lift(" + n + ")", y -> y.lift(n), BEYOND);
        }

        sentence(16, "NONE: none is ON.");
        refused(SentencesTest::noneOn, "lift(1), all are off", y -> y.lift(1), NONE);
        refused(SentencesTest::noneOn, "lift(60), all are off", y -> y.lift(60), NONE);
        refused(HatCongress::new, "lift(1) of none", y -> y.lift(1), NONE);
    }

    private static void kind() {
        sentence(17, "The KIND as one of which one is RIGHT most n SESSIONS (1 to 60) AHEAD; of several the least.");
        HatCongress x = of(HAT, 0);
        x.holds(0, 255);
        due("kind(0, 1), none is right", x.kind(0, 1), HAT);
        due("kind(0, 8), a bowler reverses", x.kind(0, 8), BOWLER);
        HatCongress follower = one(HAT, 127, 0, 0, 10);
        follower.holds(0, 128);
        due("kind(0, 8), a beret says yes to 7", follower.kind(0, 8), BERET);
        due("kind(0, 7), a beret says what is held, and longer than a cap", follower.kind(0, 7), BERET);
        due("kind(0, 2), either does: of several the least", follower.kind(0, 2), CAP);
        follower.set(0, ON, 0);
        due("kind(0, 60), off", follower.kind(0, 60), HAT);
        HatCongress own = one(BERET, 170, 9, 9, 50);
        due("kind(0, 60), of several the least", own.kind(0, 60), HAT);
        own.set(0, RIGHT, 9999);
        own.set(0, VIEW, 85);
        due("kind(0, 60), RIGHT can't be more", own.kind(0, 60), HAT);
        // Found by a search, and worked out by ModelTest's model, too: the 60th session decides.
        HatCongress late = new HatCongress();
        late.sessions(1);
        late.holds(0, 186);
        late.holds(1, 118);
        late.hat(BERET, 0);
        late.set(0, FAITH, 35);
        due("kind(0, 59)", late.kind(0, 59), BERET);
        due("kind(0, 60)", late.kind(0, 60), DERBY);

        sentence(17, "BEYOND.");
        for (int hat : outside(0, 2)) {
            refused("kind(" + hat + ", 1)", y -> y.kind(hat, 1), BEYOND);
        }
        for (int n : outside(1, 60)) {
            refused("kind(0, " + n + ")", y -> y.kind(0, n), BEYOND);
        }
    }

    private static void view() {
        sentence(18, "The VIEW (0 to 255) of one now with which the congress holds most TRUE ONES n SESSIONS (1 to 32) "
            + "AHEAD; of several the least.");
        HatCongress x = one(TOPPER, 77, 0, 1, 50);
        x.holds(0, 255);
        due("view(0, 1)", x.view(0, 1), 1);
        due("view(0, 7)", x.view(0, 7), 127);
        due("view(0, 8)", x.view(0, 8), 255);
        due("view(0, 32)", x.view(0, 32), 255);
        x.holds(0, 0);
        due("view(0, 32)", x.view(0, 32), 0);
        x.holds(0, 128);
        due("view(0, 7), of several the least", x.view(0, 7), 0);
        x.holds(0, 255);
        x.set(0, ON, 0);
        due("view(0, 32), off", x.view(0, 32), 0);
        // Found by a search, and worked out by ModelTest's model, too: the 32nd session decides.
        HatCongress late = new HatCongress();
        late.sessions(4);
        late.holds(0, 255);
        late.holds(1, 243);
        int[][] caps = {{0, 1, 1, 92}, {87, 0, 1, 3}};
        for (int h = 0; h < 2; h++) {
            late.hat(CAP, caps[h][0]);
            for (int what = RIGHT; what <= FAITH; what++) {
                late.set(h, what, caps[h][what - 1]);
            }
        }
        due("view(0, 31)", late.view(0, 31), 1);
        due("view(0, 32)", late.view(0, 32), 0);

        sentence(18, "BEYOND.");
        for (int hat : outside(0, 2)) {
            refused("view(" + hat + ", 1)", y -> y.view(hat, 1), BEYOND);
        }
        for (int n : outside(1, 32)) {
            refused("view(0, " + n + ")", y -> y.view(0, n), BEYOND);
        }
    }

    /** A derby that is wrong of all but question 7 for ever, and says nothing once it has no FAITH; question 5 is next. */
    private static HatCongress fadingDerby() {
        HatCongress x = new HatCongress();
        x.sessions(5);
        x.hat(DERBY, 127);
        x.holds(0, 255);
        x.set(0, WRONG, 9999);
        return x;
    }

    private static void faith() {
        sentence(19, "The least FAITH (0 to 99) of one now with which it is RIGHT v (0 to 9999) times, or more, "
            + "n SESSIONS (1 to 60) AHEAD.");
        HatCongress x = of(HAT, 0);
        x.holds(0, 255);
        due("faith(0, 16, 0)", x.faith(0, 16, 0), 0);
        due("faith(0, 16, 1)", x.faith(0, 16, 1), 50);
        due("faith(0, 16, 8)", x.faith(0, 16, 8), 85);
        due("faith(0, 60, 60), always right", of(HAT, 170).faith(0, 60, 60), 0);
        due("faith(0, 1, 1), always right", of(HAT, 170).faith(0, 1, 1), 0);
        due("faith(0, 1, 9999)", one(HAT, 0, 9998, 0, 50).faith(0, 1, 9999), 0);
        due("faith(0, 60, 9999), or more", one(HAT, 170, 9990, 0, 50).faith(0, 60, 9999), 0);
        // 32 steps of 3 down, more than up, stand ahead of the sixth time: 97 is the most that can be needed.
        due("faith(0, 60, 6)", fadingDerby().faith(0, 60, 6), 97);
        due("faith(0, 43, 6)", fadingDerby().faith(0, 43, 6), 97);
        due("faith(0, 60, 5)", fadingDerby().faith(0, 60, 5), 79);
        due("faith(0, 60, 1)", fadingDerby().faith(0, 60, 1), 7);

        sentence(19, "BEYOND.");
        for (int hat : outside(0, 2)) {
            refused("faith(" + hat + ", 1, 0)", y -> y.faith(hat, 1, 0), BEYOND);
        }
        for (int n : outside(1, 60)) {
            refused("faith(0, " + n + ", 0)", y -> y.faith(0, n, 0), BEYOND);
        }
        for (int v : outside(0, 9999)) {
            refused("faith(0, 1, " + v + ")", y -> y.faith(0, 1, v), BEYOND);
        }

        sentence(19, "NONE.");
        refused(() -> of(HAT, 170), "faith(0, 60, 61)", y -> y.faith(0, 60, 61), NONE);
        refused(() -> of(HAT, 170), "faith(0, 59, 60)", y -> y.faith(0, 59, 60), NONE);
        refused(SentencesTest::fadingDerby, "faith(0, 42, 6)", y -> y.faith(0, 42, 6), NONE);
        refused(SentencesTest::fadingDerby, "faith(0, 60, 7)", y -> y.faith(0, 60, 7), NONE);
        refused(SentencesTest::noneOn, "faith(0, 60, 9999), off", y -> y.faith(0, 60, 9999), NONE);
    }

    private static void swing() {
        sentence(20, "Whose word turns it: the least one that is ON, without which (off now) the congress would hold "
            + "otherwise to the QUESTION of this SESSION, once that has gone, than with it.");
        HatCongress x = of(HAT, 0, 1, 1);
        due("swing(), 2 to 1, and no was held", x.swing(), 1);
        x.set(1, ON, 0);
        due("swing(), 1 to 1, and no was held", x.swing(), 0);
        x.holds(1, 1);
        due("swing(), 1 to 1, and yes was held", x.swing(), 2);
        due("swing(), the only one", of(HAT, 1).swing(), 0);
        HatCongress ten = of(HAT, 0, 0, 0, 0, 0, 0, 0, 0, 0, 0);
        ten.turn(9, TOPPER);
        ten.set(9, WRONG, 1);
        ten.set(9, VIEW, 1);
        for (int h = 2; h < 9; h++) {
            ten.set(h, ON, 0);
        }
        due("swing(), the tenth", ten.swing(), 9);
        x = of(HAT, 2);
        x.sessions(1);
        due("swing(), by the QUESTION of SESSION 1", x.swing(), 0);
        x.sessions(7);
        due("now(1)", x.now(1), 0);
        x.set(0, VIEW, 1);
        due("swing(), by the QUESTION of SESSION 8", x.swing(), 0);

        sentence(20, "NONE.");
        refused(HatCongress::new, "swing() of none", y -> y.swing(), NONE);
        refused(() -> of(HAT, 0), "swing(), it says what is held", y -> y.swing(), NONE);
        refused(() -> of(HAT, 1, 1), "swing(), either would do", y -> y.swing(), NONE);
        refused(() -> of(TOPPER, 1), "swing(), it says nothing", y -> y.swing(), NONE);
        refused(SentencesTest::noneOn, "swing(), all are off", y -> y.swing(), NONE);
        refused(() -> of(HAT, 254), "swing(), other QUESTIONS don't count", y -> y.swing(), NONE);
        refused(() -> of(HAT, 1, 1, 1, 1, 1, 1, 1, 1, 1, 1), "swing() of ten", y -> y.swing(), NONE);
    }

    /** A topper, wrong of two questions for ever, from a session on. */
    private static HatCongress stubborn(int session, int wrongOf) {
        HatCongress x = new HatCongress();
        if (session > 0) {
            x.sessions(session);
        }
        x.hat(TOPPER, 170 ^ wrongOf);
        x.set(0, WRONG, 1);
        return x;
    }

    /** Ten whose WRONG can be but one more: the tenth's, which is wrong of question 3. */
    private static HatCongress nearlyAllWrong() {
        HatCongress x = new HatCongress();
        for (int h = 0; h < 10; h++) {
            x.hat(TOPPER, 170 ^ 8);
            x.set(h, WRONG, h == 9 ? 9998 : 9999);
        }
        return x;
    }

    private static void revise() {
        sentence(21, "The QUESTION whose TRUTH, the other way round, lets WRONG of all together be least n SESSIONS "
            + "(1 to 60) AHEAD; of several the least.");
        due("revise(1)", stubborn(0, 1).revise(1), 0);
        due("revise(1), of several the least", stubborn(0, 128).revise(1), 1);
        due("revise(8)", stubborn(0, 128).revise(8), 7);
        due("revise(8), of several the least", stubborn(0, 24).revise(8), 3);
        due("revise(8), from yes to no", stubborn(0, 32).revise(8), 5);
        // From SESSION 4 on, the 60th is the 8th to ask question 7, and the 59th the 7th to ask question 0.
        due("revise(59)", stubborn(4, 129).revise(59), 0);
        due("revise(60)", stubborn(4, 129).revise(60), 7);
        HatCongress two = stubborn(0, 9);
        two.hat(TOPPER, 170 ^ 8);
        two.set(1, WRONG, 1);
        due("revise(60), of all together", two.revise(60), 3);
        due("revise(60) of none", new HatCongress().revise(60), 0);
        due("revise(8), each makes an error", of(HAT, 170).revise(8), 0);
        due("revise(8), WRONG near its most", nearlyAllWrong().revise(8), 3);

        sentence(21, "BEYOND.");
        for (int n : outside(1, 60)) {
            refused("revise(" + n + ")", y -> y.revise(n), BEYOND);
        }
    }

    private static void best() {
        sentence(22, "Which one is RIGHT most, less WRONG, n SESSIONS (0 to 200) AHEAD; of several the least.");
        HatCongress x = of(HAT, 170, 170, 170);
        due("best(0), of several the least", x.best(0), 0);
        due("best(200), of several the least", x.best(200), 0);
        x.set(2, RIGHT, 1);
        due("best(0)", x.best(0), 2);
        x.set(2, WRONG, 1);
        due("best(0), less WRONG", x.best(0), 0);
        x.set(0, WRONG, 1);
        due("best(0), less WRONG", x.best(0), 1);
        HatCongress late = of(HAT, 170, 170);
        late.set(0, ON, 0);
        late.set(0, RIGHT, 199);
        due("best(199)", late.best(199), 0);
        due("best(200)", late.best(200), 1);
        HatCongress far = of(HAT, 0, 0);
        far.set(0, WRONG, 9999);
        far.set(1, WRONG, 9998);
        due("best(0), all far below 0", far.best(0), 1);

        sentence(22, "BEYOND.");
        for (int n : outside(0, 200)) {
            refused("best(" + n + ")", y -> y.best(n), BEYOND);
        }

        sentence(22, "NONE: there is none.");
        refused(HatCongress::new, "best(0) of none", y -> y.best(0), NONE);
        refused(HatCongress::new, "best(200) of none", y -> y.best(200), NONE);
        due("best(0), all are off", noneOn().best(0) < 0 ? 1 : 0, 0);
    }

    // ---- the text

    private static void feed() {
        sentence(23, "THE TAPE gets the n lowest bytes of a number behind it, the highest of these first (n 1 to 4): "
            + "how many it has.");
        HatCongress x = new HatCongress();
        due("feed(.., 3)", x.feed('!' << 24 | 'h' << 16 | 'a' << 8 | 't', 3), 3);
        due("feed(.., 1)", x.feed('!' << 24 | '!' << 16 | '!' << 8 | ' ', 1), 4);
        due("feed(.., 2)", x.feed('!' << 24 | '!' << 16 | 'o' << 8 | 'f', 2), 6);
        due("feed(.., 1)", x.feed('f', 1), 7);
        due("lobby() of \"hat off\"", x.lobby(), 1);
        due("of(0, 5)", x.of(0, ON), 0);
        due("feed(.., 4)", x.feed('c' << 24 | 'a' << 16 | 'p' << 8 | ' ', 4), 4);
        due("feed(-1, 4)", x.feed(-1, 4), 8);
        due("lobby() of \"cap \" and bytes 255", x.lobby(), -5);
        for (int i = 1; i <= 30; i++) {
            due("feed(0, 4)", x.feed(0, 4), 4 * i);
        }

        sentence(23, "BEYOND: n.");
        for (int n : outside(1, 4)) {
            refused("feed(0, " + n + ")", y -> y.feed(0, n), BEYOND);
        }

        sentence(23, "FULL.");
        for (int n = 1; n <= 4; n++) {
            int some = n;
            refused(SentencesTest::fullTape, "feed(0, " + n + ") behind 120", y -> y.feed(0, some), FULL);
            refused(() -> tape(121 - some), "feed(0, " + n + ") behind " + (121 - n), y -> y.feed(0, some), FULL);
            due("feed(0, " + n + ") behind " + (120 - n), tape(120 - n).feed(0, n), 120);
        }
    }

    private static HatCongress tape(int bytes) {
        HatCongress x = new HatCongress();
        feed(x, padded("truth 3", bytes));
        return x;
    }

    private static void wipe() {
        sentence(24, "THE TAPE is empty: how many it had.");
        HatCongress x = new HatCongress();
        due("wipe() of none", x.wipe(), 0);
        due("wipe() of 8", tape(8).wipe(), 8);
        x = fullTape();
        due("wipe() of 120", x.wipe(), 120);
        due("count(1)", x.count(1), 0);
        due("wipe(), again", x.wipe(), 0);
        due("feed(0, 1)", x.feed(0, 1), 1);
        x.wipe();
        due("lobby(), nothing is left", x.lobby(), -1);
    }

    private static void lobbies() {
        sentence(25, "THE TAPE is THE TEXT of a LOBBY, whose ITEMS come to what there is, and empty then: how many ITEMS.");
        HatCongress x = of(HAT, 9);
        x.holds(1, 4);
        due("lobby()", lobby(x, "cap view 3;truth 5;holds 1 yes;lift 0;derby faith 9 off"), 5);
        traits(x, 0, HAT, 9, 0, 0, 50, 0);
        traits(x, 1, CAP, 3, 0, 0, 50, 1);
        traits(x, 2, DERBY, 0, 0, 0, 9, 0);
        due("count(0)", x.count(0), 3);
        due("now(2)", x.now(2), 5);
        due("now(3)", x.now(3), 6);
        due("count(1)", x.count(1), 0);
        due("lobby(), again", x.lobby(), -1);
        due("lobby() of one", lobby(x, "hat"), 1);
        due("lobby() of ten", lobby(new HatCongress(), "hat;hat;hat;hat;hat;hat;hat;hat;hat;hat"), 10);

        sentence(25, "With a FAULT: -1 less its place (nothing changes but that THE TAPE is empty; no finding).");
        String[] texts = {"", "x", "truth 3;lift 0;", "truth 3;holds 1 yes;lift 0;cap view 9;lift 4", "hat off off"};
        int[] places = {0, 0, 15, 43, 8};
        for (int i = 0; i < texts.length; i++) {
            HatCongress y = furnished();
            HatCongress twin = furnished();
            y.wipe();
            twin.wipe();
            due("lobby() of \"" + texts[i] + "\"", lobby(y, texts[i]), -1 - places[i]);
            due("count(1)", y.count(1), 0);
            due("status(-1)", y.status(-1), twin.status(-1));
            same(y, twin, "lobby() of \"" + texts[i] + "\"");
        }
        due("lobby(), a FAULT at 120", lobby(new HatCongress(), padded("hat;", 120)), -121);
    }

    // ---- sheets

    private static void sheet() {
        sentence(26, "A sheet has n numbers, all 0, of 8, 16 or 64 bits; bits 0: it is MISSING: n (0 if it is MISSING).");
        for (int bits : new int[] {8, 16, 64}) {
            for (int n : new int[] {0, 1, 39, 40}) {
                HatCongress x = furnished();
                due("sheet(0, " + bits + ", " + n + ")", x.sheet(0, bits, n), n);
                for (int i = 0; i < n; i++) {
                    due("write(0, " + i + ", -1)", x.write(0, i, -1), 0);
                }
                due("write(0, " + n + ", 0)", x.write(0, n, 0), BEYOND);
                due("sheet(0, .., " + n + "), anew", x.sheet(0, bits, n), n);
                for (int i = 0; i < n; i++) {
                    due("write(0, " + i + ", 0), all 0", x.write(0, i, 0), 0);
                }
            }
        }
        for (int n : new int[] {0, 1, 40}) {
            HatCongress x = furnished();
            due("sheet(0, 0, " + n + ")", x.sheet(0, 0, n), 0);
            due("write(0, 0, 0)", x.write(0, 0, 0), MISSING);
            due("sheet(3, 0, " + n + "), MISSING already", x.sheet(3, 0, n), 0);
            due("write(1, 0, 0), another one", x.write(1, 0, 0), 8);
        }

        sentence(26, "BEYOND: no such sheet, other bits.");
        for (int s : outside(0, 3)) {
            refused("sheet(" + s + ", 8, 1)", y -> y.sheet(s, 8, 1), BEYOND);
        }
        for (int bits : new int[] {LEAST, -1, 1, 7, 9, 15, 17, 32, 63, 65, 128, MOST}) {
            refused("sheet(0, " + bits + ", 1)", y -> y.sheet(0, bits, 1), BEYOND);
        }

        int[] mayBe = {0, 8, 16, 64};
        sentence(26, "SIZE: n is below 0 (also with bits 0).");
        for (int bits : mayBe) {
            refused("sheet(0, " + bits + ", -1)", y -> y.sheet(0, bits, -1), SIZE);
            refused("sheet(3, " + bits + ", -1)", y -> y.sheet(3, bits, -1), SIZE);
            refused("sheet(0, " + bits + ", least)", y -> y.sheet(0, bits, LEAST), SIZE);
        }

        sentence(26, "BEYOND: n is above 40 (also with bits 0).");
        for (int bits : mayBe) {
            refused("sheet(0, " + bits + ", 41)", y -> y.sheet(0, bits, 41), BEYOND);
            refused("sheet(3, " + bits + ", 41)", y -> y.sheet(3, bits, 41), BEYOND);
            refused("sheet(0, " + bits + ", most)", y -> y.sheet(0, bits, MOST), BEYOND);
        }
    }

    private static void write() {
        sentence(27, "Number i of a sheet becomes v (its lowest bits): what it was.");
        long[][] rows = {
            {8, 127, 127}, {8, 128, -128}, {8, 255, -1}, {8, 256, 0}, {8, -128, -128}, {8, -129, 127}, {8, -1, -1},
            {16, 255, 255}, {16, 32767, 32767}, {16, 32768, -32768}, {16, 65535, -1}, {16, 65536, 0}, {16, -32769, 32767},
            {64, 65536, 65536}, {64, 1L << 32, 1L << 32}, {64, -1, -1},
            {64, Long.MAX_VALUE, Long.MAX_VALUE}, {64, Long.MIN_VALUE, Long.MIN_VALUE},
            {8, Long.MAX_VALUE, -1}, {16, Long.MIN_VALUE, 0},
        };
        for (long[] r : rows) {
            HatCongress x = new HatCongress();
            x.sheet(3, (int) r[0], 40);
            for (int i : new int[] {0, 39}) {
                due("write(3, " + i + ", " + r[1] + ")", x.write(3, i, r[1]), 0);
                due("write(3, " + i + ", 0) of " + r[0] + " bits", x.write(3, i, 0), r[2]);
            }
            due("write(3, 1, 0), another number", x.write(3, 1, 0), 0);
        }

        sentence(27, "BEYOND: no such sheet.");
        for (int s : outside(0, 3)) {
            refused("write(" + s + ", 0, 1)", y -> y.write(s, 0, 1), BEYOND);
        }

        sentence(27, "MISSING.");
        refused("write(3, 0, 1)", y -> y.write(3, 0, 1), MISSING);
        refused("write(3, 40, 1)", y -> y.write(3, 40, 1), MISSING);

        sentence(27, "BEYOND: no such number.");
        for (int i : outside(0, 1)) {
            refused("write(2, " + i + ", 1)", y -> y.write(2, i, 1), BEYOND);
        }
        refused(() -> sheetOf(0), "write(0, 0, 1) of no numbers", y -> y.write(0, 0, 1), BEYOND);
        refused(() -> sheetOf(40), "write(0, 40, 1) of 40", y -> y.write(0, 40, 1), BEYOND);
    }

    private static HatCongress sheetOf(int n) {
        HatCongress x = furnished();
        x.sheet(0, 8, n);
        return x;
    }

    /** Sheet 0 has 10, 11, 12, 13, 14; sheet 1 has 20, 21, 22; sheet 2 is of other bits, with 5; 3 is missing. */
    private static HatCongress rows() {
        HatCongress x = furnished();
        x.sheet(0, 16, 5);
        x.sheet(1, 16, 3);
        x.sheet(2, 8, 5);
        for (int i = 0; i < 5; i++) {
            x.write(0, i, 10 + i);
        }
        for (int i = 0; i < 3; i++) {
            x.write(1, i, 20 + i);
        }
        return x;
    }

    private static void copied(int s, int from, int t, int to, int n, long... want) {
        HatCongress x = rows();
        due("copy(" + s + ", " + from + ", " + t + ", " + to + ", " + n + ")", x.copy(s, from, t, to, n), n);
        numbers(x, t, want);
        if (s != t) {
            due("write(" + s + ", 0, 0)", x.write(s, 0, 0), s == 0 ? 10 : 20);
        }
    }

    private static void copy() {
        sentence(28, "n numbers of a sheet from one on come to another one from one on (as they all were): n.");
        copied(0, 0, 1, 0, 3, 10, 11, 12);
        copied(0, 2, 1, 0, 3, 12, 13, 14);
        copied(1, 0, 0, 2, 3, 10, 11, 20, 21, 22);
        copied(0, 4, 1, 2, 1, 20, 21, 14);
        copied(0, 0, 0, 1, 4, 10, 10, 11, 12, 13);
        copied(0, 1, 0, 0, 4, 11, 12, 13, 14, 14);
        copied(0, 0, 0, 0, 5, 10, 11, 12, 13, 14);
        copied(0, 0, 1, 0, 0, 20, 21, 22);
        copied(0, 5, 1, 3, 0, 20, 21, 22);
        HatCongress x = new HatCongress();
        x.sheet(0, 64, 40);
        x.sheet(3, 64, 40);
        x.write(0, 39, Long.MIN_VALUE);
        due("copy(0, 0, 3, 0, 40)", x.copy(0, 0, 3, 0, 40), 40);
        due("write(3, 39, 0)", x.write(3, 39, 0), Long.MIN_VALUE);

        sentence(28, "BEYOND: no such sheet (either).");
        for (int s : outside(0, 3)) {
            refused(SentencesTest::rows, "copy(" + s + ", 0, 0, 0, 0)", y -> y.copy(s, 0, 0, 0, 0), BEYOND);
            refused(SentencesTest::rows, "copy(0, 0, " + s + ", 0, 0)", y -> y.copy(0, 0, s, 0, 0), BEYOND);
            refused(SentencesTest::rows, "copy(" + s + ", 0, 3, 0, 0)", y -> y.copy(s, 0, 3, 0, 0), BEYOND);
        }

        sentence(28, "MISSING: one is.");
        refused(SentencesTest::rows, "copy(3, 0, 0, 0, 0)", y -> y.copy(3, 0, 0, 0, 0), MISSING);
        refused(SentencesTest::rows, "copy(0, 0, 3, 0, 0)", y -> y.copy(0, 0, 3, 0, 0), MISSING);
        refused(SentencesTest::rows, "copy(3, 0, 3, 0, 0)", y -> y.copy(3, 0, 3, 0, 0), MISSING);

        sentence(28, "KIND: they are not of as many bits.");
        refused(SentencesTest::rows, "copy(0, 0, 2, 0, 1)", y -> y.copy(0, 0, 2, 0, 1), KIND);
        refused(SentencesTest::rows, "copy(2, 0, 0, 0, 0)", y -> y.copy(2, 0, 0, 0, 0), KIND);
        refused("copy(1, 0, 2, 0, 0)", y -> y.copy(1, 0, 2, 0, 0), KIND);

        sentence(28, "BEYOND: one has not so many, or from, to or n is below 0.");
        int[][] bad = {
            {0, 1, 4}, {0, 0, 4}, {3, 0, 3}, {4, 0, 2}, {5, 0, 1}, {6, 0, 0}, {0, 3, 1}, {0, 4, 0},
            {-1, 0, 1}, {-1, 0, 0}, {0, -1, 1}, {0, -1, 0}, {0, 0, -1}, {1, 1, -1},
            {LEAST, 0, 1}, {0, LEAST, 1}, {0, 0, LEAST}, {MOST, 0, 1}, {0, MOST, 1}, {0, 0, MOST},
            {MOST, 0, MOST}, {0, MOST, MOST}, {MOST, MOST, MOST}, {LEAST, LEAST, LEAST}, {MOST, 0, 2}, {0, MOST, 2},
        };
        for (int[] b : bad) {
            refused(SentencesTest::rows, "copy(0, " + b[0] + ", 1, " + b[1] + ", " + b[2] + ")",
                y -> y.copy(0, b[0], 1, b[1], b[2]), BEYOND);
        }
        refused(SentencesTest::rows, "copy(1, 0, 0, 0, 4)", y -> y.copy(1, 0, 0, 0, 4), BEYOND);
        refused(SentencesTest::rows, "copy(0, 0, 0, 1, 5)", y -> y.copy(0, 0, 0, 1, 5), BEYOND);
    }

    private static void lays() {
        sentence(29, "Numbers of a sheet become VIEWS of HATS 0, 1, .. (those that aren't 0 to 255, or stand for none, "
            + "are left out): how many came.");
        HatCongress x = of(HAT, 1, 2, 3, 4);
        x.set(3, ON, 0);
        x.sheet(0, 16, 6);
        int[] row = {255, 256, -1, 0, 9, 9};
        for (int i = 0; i < row.length; i++) {
            x.write(0, i, row[i]);
        }
        due("lays(0)", x.lays(0), 2);
        traits(x, 0, HAT, 255, 0, 0, 50, 1);
        traits(x, 1, HAT, 2, 0, 0, 50, 1);
        traits(x, 2, HAT, 3, 0, 0, 50, 1);
        traits(x, 3, HAT, 0, 0, 0, 50, 0);
        due("count(0)", x.count(0), 4);
        x.sheet(1, 64, 3);
        x.write(1, 0, 1L << 32);
        x.write(1, 1, Long.MIN_VALUE);
        x.write(1, 2, 77);
        due("lays(1): fewer than HATS", x.lays(1), 1);
        due("of(0, 1)", x.of(0, VIEW), 255);
        due("of(1, 1)", x.of(1, VIEW), 2);
        due("of(2, 1)", x.of(2, VIEW), 77);
        due("of(3, 1)", x.of(3, VIEW), 0);
        x.sheet(1, 8, 2);
        x.write(1, 0, 127);
        x.write(1, 1, 128);
        due("lays(1): 128 in 8 bits is -128", x.lays(1), 1);
        due("of(0, 1)", x.of(0, VIEW), 127);
        x.sheet(1, 8, 0);
        due("lays(1) of no numbers", x.lays(1), 0);
        HatCongress ten = of(HAT, 1, 1, 1, 1, 1, 1, 1, 1, 1, 1);
        ten.sheet(0, 8, 40);
        ten.write(0, 9, 99);
        due("lays(0) of 40 numbers, for ten", ten.lays(0), 10);
        due("of(9, 1)", ten.of(9, VIEW), 99);
        HatCongress none = new HatCongress();
        none.sheet(0, 8, 40);
        due("lays(0) for none", none.lays(0), 0);

        sentence(29, "BEYOND: no such sheet.");
        for (int s : outside(0, 3)) {
            refused("lays(" + s + ")", y -> y.lays(s), BEYOND);
        }

        sentence(29, "MISSING.");
        refused("lays(3)", y -> y.lays(3), MISSING);
    }

    private static void book() {
        sentence(30, "A book: what one SAYS in this SESSION, the next one, .. (to its QUESTION) comes to a sheet, "
            + "as many as it has numbers: how many.");
        HatCongress x = new HatCongress();
        x.sessions(6);
        x.hat(HAT, 0);
        x.hat(TOPPER, 255);
        x.sheet(0, 8, 12);
        due("book(0, 0)", x.book(0, 0), 12);
        numbers(x, 0, 0, 0, 0, 0, 0, 0, 0, 0, 0, 1, 0, 1);
        due("now(0)", x.now(0), 6);
        traits(x, 0, HAT, 0, 0, 0, 50, 1);
        for (int bits : new int[] {8, 16, 64}) {
            x.sheet(0, bits, 2);
            due("book(0, 1)", x.book(0, 1), 2);
            numbers(x, 0, -1, -1);
        }
        x.sheet(0, 16, 40);
        due("book(0, 0) of 40", x.book(0, 0), 40);
        due("write(0, 39, 0): SESSION 45 asks question 5", x.write(0, 39, 0), 1);
        due("write(0, 38, 0)", x.write(0, 38, 0), 0);
        x.sheet(0, 64, 0);
        due("book(0, 0) of no numbers", x.book(0, 0), 0);

        sentence(30, "BEYOND: no such sheet.");
        for (int s : outside(0, 3)) {
            refused("book(" + s + ", 0)", y -> y.book(s, 0), BEYOND);
        }

        sentence(30, "MISSING.");
        refused("book(3, 0)", y -> y.book(3, 0), MISSING);

        sentence(30, "BEYOND: hat.");
        for (int hat : outside(0, 2)) {
            refused("book(0, " + hat + ")", y -> y.book(0, hat), BEYOND);
        }
        refused(SentencesTest::tenHats, "book(0, 10) of ten", y -> y.book(0, 10), BEYOND);
    }

    private static void read() {
        sentence(31, "THE READER: numbers of a sheet are what one SAYS in this SESSION, the next one, ..: how many pairs "
            + "of a KIND and a VIEW (0 to 255) of it make it just so.");
        HatCongress x = of(HAT, 0);
        x.sheet(0, 64, 0);
        due("read(0, 0) of no numbers", x.read(0, 0), 1536);
        x.sheet(0, 64, 1);
        long[][] rows = {{0, 640}, {1, 640}, {-1, 256}, {-2, 0}, {2, 0}, {1L << 32, 0}, {Long.MIN_VALUE, 0}};
        for (long[] r : rows) {
            x.write(0, 0, r[0]);
            due("read(0, 0) of " + r[0], x.read(0, 0), r[1]);
        }
        x.set(0, FAITH, 0);
        x.write(0, 0, -1);
        due("read(0, 0) of nothing, with FAITH 0: toppers, derbies", x.read(0, 0), 512);
        HatCongress own = one(TOPPER, 85, 0, 1, 50);
        own.sheet(1, 8, 40);
        due("book(1, 0)", own.book(1, 0), 40);
        due("read(1, 0): itself, or a bowler with VIEW 170, reversed for ever", own.read(1, 0), 2);
        long last = own.write(1, 39, 1);
        due("write(1, 39, 1)", last, 0);
        due("read(1, 0): the 40th number is another", own.read(1, 0), 0);
        traits(own, 0, TOPPER, 85, 0, 1, 50, 1);

        sentence(31, "BEYOND: no such sheet.");
        for (int s : outside(0, 3)) {
            refused("read(" + s + ", 0)", y -> y.read(s, 0), BEYOND);
        }

        sentence(31, "MISSING.");
        refused("read(3, 0)", y -> y.read(3, 0), MISSING);

        sentence(31, "BEYOND: hat.");
        for (int hat : outside(0, 2)) {
            refused("read(0, " + hat + ")", y -> y.read(0, hat), BEYOND);
        }
        refused(SentencesTest::tenHats, "read(0, 10) of ten", y -> y.read(0, 10), BEYOND);
    }

    // ---- images

    private static void image() {
        sentence(32, "All that section 1 tells (THE TAPE not) is kept: 1.");
        HatCongress x = tenHats();
        for (int h = 0; h < 10; h++) {
            x.set(h, RIGHT, 100 + h);
            x.set(h, WRONG, 200 + h);
            x.set(h, FAITH, 30 + h);
        }
        x.holds(1, 77);
        List<Long> kept = table(x);
        due("image()", x.image(), 1);
        due("image(), again", x.image(), 1);
        due("1 if image() changes nothing", table(x).equals(kept) ? 1 : 0, 1);
        for (int h = 0; h < 10; h++) {
            x.turn(h, (x.of(h, 0) + 1) % 6);
            x.set(h, VIEW, 255 - x.of(h, VIEW));
            x.set(h, ON, 1 - x.of(h, ON));
        }
        x.sessions(3);
        x.holds(0, 1);
        x.holds(1, 2);
        x.feed(0, 2);
        due("undo()", x.undo(), 10);
        due("1 if all is as it was kept", table(x).equals(kept) ? 1 : 0, 1);
        due("count(1): THE TAPE is not kept", x.count(1), 16);
        HatCongress none = new HatCongress();
        due("image() of none", none.image(), 1);
        none.hat(0, 0);
        due("undo()", none.undo(), 0);
        due("count(0)", none.count(0), 0);
        due("now(6)", none.now(6), 0);
    }

    private static void undo() {
        sentence(33, "It becomes what was kept latest (which stays): how many HATS.");
        HatCongress x = new HatCongress();
        x.hat(HAT, 1);
        x.image();
        x.hat(CAP, 2);
        x.image();
        x.hat(TOPPER, 3);
        for (int what = RIGHT; what <= ON; what++) {
            x.set(2, what, what == ON ? 0 : 9);
        }
        due("undo(), the latest", x.undo(), 2);
        due("of(1, 0)", x.of(1, 0), CAP);
        due("of(2, 0)", x.of(2, 0), BEYOND);
        x.set(0, VIEW, 99);
        x.sessions(2);
        due("undo(), again", x.undo(), 2);
        due("of(0, 1)", x.of(0, VIEW), 1);
        due("now(0)", x.now(0), 0);
        due("hat(5, 0), a new one has nothing of an old one", x.hat(BERET, 0), 2);
        traits(x, 2, BERET, 0, 0, 0, 50, 1);
        x.sheet(0, 8, 1);
        x.write(0, 0, 5);
        x.feed(0, 3);
        due("undo()", x.undo(), 2);
        due("write(0, 0, 0), sheets stay", x.write(0, 0, 0), 5);
        due("count(1), THE TAPE stays", x.count(1), 3);
        due("tear(), it is kept still", x.tear(), 1);

        sentence(33, "NONE: nothing is kept.");
        refused(HatCongress::new, "undo() of a new one", y -> y.undo(), NONE);
        refused(SentencesTest::torn, "undo() behind tear()", y -> y.undo(), NONE);
    }

    private static void tear() {
        sentence(34, "Nothing is kept: 1 if something was, else 0.");
        HatCongress x = new HatCongress();
        due("tear() of a new one", x.tear(), 0);
        x.image();
        x.image();
        due("tear()", x.tear(), 1);
        due("tear(), again", x.tear(), 0);
        due("undo()", x.undo(), NONE);
        x.image();
        x.undo();
        due("tear(), undo() takes none", x.tear(), 1);
        x.hat(0, 0);
        x.image();
        due("undo(), kept anew", x.undo(), 1);
        HatCongress y = furnished();
        List<Long> before = table(y);
        y.tear();
        due("1 if the table is as it was", table(y).equals(before) ? 1 : 0, 1);
    }

    private static void count() {
        sentence(35, "0 HATS, 1 bytes of THE TAPE, 2 RIGHT, 3 WRONG of all together.");
        for (int what = 0; what < 4; what++) {
            due("count(" + what + ") of a new one", new HatCongress().count(what), 0);
        }
        HatCongress x = of(HAT, 0, 0, 0);
        x.set(0, RIGHT, 7);
        x.set(2, RIGHT, 5);
        x.set(1, WRONG, 3);
        x.set(2, WRONG, 1);
        x.set(2, ON, 0);
        x.feed(0, 1);
        int[] few = {3, 1, 12, 4};
        HatCongress full = of(HAT, 0, 0, 0, 0, 0, 0, 0, 0, 0, 0);
        for (int h = 0; h < 10; h++) {
            full.set(h, RIGHT, 9999);
            full.set(h, WRONG, 9990 + h);
        }
        feed(full, padded("", 120));
        int[] most = {10, 120, 99990, 99945};
        for (int what = 0; what < 4; what++) {
            due("count(" + what + ")", x.count(what), few[what]);
            due("count(" + what + ")", full.count(what), most[what]);
        }

        sentence(35, "BEYOND: another what.");
        for (int what : outside(0, 3)) {
            refused("count(" + what + ")", y -> y.count(what), BEYOND);
        }
    }

    private static void status() {
        sentence(36, "How many acts answered a finding ever (undo() takes none back): which -1: all, "
            + "0 to 6: BEYOND to SIZE.");
        HatCongress x = tenHats();
        x.image();
        Act[] acts = {y -> y.now(8), y -> y.hat(0, 0), y -> y.as(0, 1), y -> y.faith(0, 1, 9999), y -> 0,
            y -> y.lays(3), y -> y.sheet(0, 8, -1)};
        int all = 0;
        for (int f = 0; f < 7; f++) {
            for (int times = 0; times <= f && f != 4; times++) {
                due("finding " + f, acts[f].on(x), BEYOND - f);
                all++;
            }
        }
        x.undo();
        for (int which = 0; which < 7; which++) {
            due("status(" + which + ")", x.status(which), which == 4 ? 0 : which + 1);
        }
        due("status(-1)", x.status(-1), all);
        due("status(-1), it counts no asking", x.status(-1), all);
        due("lobby(), a FAULT", lobby(x, ";"), -1 - 15);
        due("write(2, 0, BEYOND)", x.write(2, 0, BEYOND), 15);
        due("write(2, 0, 0), a number", x.write(2, 0, 0), BEYOND);
        due("says(3, 0), -1", x.says(3, 0), -1);
        due("status(-1), none of these was a finding", x.status(-1), all);
        HatCongress late = atSession(99999);
        late.sessions(1);
        due("status(4)", late.status(4), 1);
        due("status(-1)", late.status(-1), 1);

        sentence(36, "BEYOND (counted from then on): another one.");
        for (int which : outside(-1, 6)) {
            refused("status(" + which + ")", y -> y.status(which), BEYOND);
        }
        HatCongress z = new HatCongress();
        z.status(7);
        due("status(0)", z.status(0), 1);
        z.status(-2);
        due("status(0)", z.status(0), 2);
        due("status(-1)", z.status(-1), 2);
    }

    // ---- the document

    /** The sentences of a text; ".." ends none. */
    private static List<String> sentencesOf(String text) {
        List<String> found = new ArrayList<>();
        Matcher m = Pattern.compile("[^.]+\\.\\)?").matcher(text.replaceAll("\\s+", " ").replace("..", "\u0001"));
        while (m.find()) {
            String words = m.group().trim().replace("\u0001", "..");
            if (!words.matches("\\d+\\.")) {
                found.add(words);
            }
        }
        return found;
    }

    private static List<String> document(String doc) {
        List<String> found = new ArrayList<>();
        String terms = doc.substring(doc.indexOf("## Terms") + 8, doc.indexOf("Ahead of the calls"));
        for (String words : sentencesOf(terms.replace("```text", "").replace("```", ""))) {
            found.add("promise 0: " + words);
        }
        Matcher m = Pattern.compile("## Promise (\\d+): [^\n]*\n+`[^`]*`: ([^\n]*)").matcher(doc);
        while (m.find()) {
            for (String words : sentencesOf(m.group(2))) {
                found.add("promise " + m.group(1) + ": " + words);
            }
        }
        return found;
    }

    private static void compareWithDocument() throws IOException {
        Path path = Path.of("../shared/DOC.md");
        if (!Files.isReadable(path)) {
            System.out.println("no " + path + ": the sentences quoted here are not compared with it");
            return;
        }
        List<String> untested = document(Files.readString(path));
        for (String words : quoted) {
            if (!untested.remove(words)) {
                wrong++;
                System.out.println("not in the document: " + words);
            }
        }
        for (String words : untested) {
            wrong++;
            System.out.println("no test has " + words);
        }
    }

    private static void terms() {
        findings();
        quotientsAndSets();
        sessionAndSets();
        hats();
        says();
        weighs();
        learns();
        stirs();
        sessionGoes();
        sessionJudges();
        tokens();
        items();
        faultsOfTexts();
        aheadAndSheets();
    }

    private static void promises() {
        newObject();
        holds();
        now();
        hat();
        of();
        saysOfOne();
        set();
        turn();
        as();
        sessions();
        on();
        then();
        comes();
        wise();
        errs();
        lift();
        kind();
        view();
        faith();
        swing();
        revise();
        best();
        feed();
        wipe();
        lobbies();
        sheet();
        write();
        copy();
        lays();
        book();
        read();
        image();
        undo();
        tear();
        count();
        status();
    }

    private static void watch() {
        Thread watch = new Thread(() -> {
            try {
                Thread.sleep(MOST_MILLIS);
            } catch (InterruptedException e) {
                return;
            }
            System.out.println(sentence + "\n    a call did not end");
            Runtime.getRuntime().halt(1);
        });
        watch.setDaemon(true);
        watch.start();
    }

    public static void main(String[] args) throws IOException {
        watch();
        try {
            terms();
            promises();
        } catch (RuntimeException e) {
            wrong++;
            System.out.println(sentence + "\n    a call threw");
            e.printStackTrace(System.out);
        }
        compareWithDocument();
        int asked = 0;
        for (Map.Entry<String, Integer> e : answers.entrySet()) {
            asked += e.getValue();
            if (e.getValue() == 0) {
                wrong++;
                System.out.println("nothing is asked for " + e.getKey());
            }
        }
        System.out.println(quoted.size() + " sentences, " + asked + " answers, " + wrong + " not as due");
        if (wrong != 0) {
            System.exit(1);
        }
    }
}
