import java.util.ArrayList;
import java.util.List;
import java.util.Random;
import java.util.regex.Matcher;
import java.util.regex.Pattern;

/**
 * Long runs of calls against a second reading of the document, written the other way round:
 * kinds as classes over one another, states that are copied and never mended, a text taken by patterns.
 */
public final class ModelTest {
    private static final int RUNS = 3000;
    private static final int CALLS = 512;

    private static final long BEYOND = -1000000001;
    private static final long FULL = -1000000002;
    private static final long KIND = -1000000003;
    private static final long NONE = -1000000004;
    private static final long STATE = -1000000005;
    private static final long MISSING = -1000000006;
    private static final long SIZE = -1000000007;

    static class Hat {
        int kind;
        int view;
        int right;
        int wrong;
        int faith = 50;
        boolean on = true;

        Integer says(State s, int q) {
            return view >> q & 1;
        }

        int weighs(State s) {
            return 1;
        }

        boolean learns(State s) {
            return faith >= 50;
        }

        int stirs() {
            return 5;
        }

        Hat as(int other) {
            Hat h = make(other);
            h.view = view;
            h.right = right;
            h.wrong = wrong;
            h.faith = faith;
            h.on = on;
            return h;
        }

        static Hat make(int kind) {
            Hat h = new Hat[] {new Hat(), new Bowler(), new Cap(), new Topper(), new Derby(), new Beret()}[kind];
            h.kind = kind;
            return h;
        }
    }

    static class Bowler extends Hat {
        @Override
        Integer says(State s, int q) {
            return wrong > right ? Integer.valueOf(1 - super.says(s, q)) : super.says(s, q);
        }

        @Override
        int weighs(State s) {
            return super.weighs(s) + faith / 50;
        }

        @Override
        boolean learns(State s) {
            return true;
        }

        @Override
        int stirs() {
            return super.stirs() - 2;
        }
    }

    static class Cap extends Hat {
        @Override
        Integer says(State s, int q) {
            return faith < 30 ? Integer.valueOf(s.held[q] ? 1 : 0) : super.says(s, q);
        }

        @Override
        int stirs() {
            return super.stirs() * 2;
        }
    }

    static class Topper extends Hat {
        @Override
        Integer says(State s, int q) {
            return wrong == 0 && right < 3 ? null : super.says(s, q);
        }

        @Override
        int weighs(State s) {
            return 3;
        }

        @Override
        boolean learns(State s) {
            return false;
        }

        @Override
        int stirs() {
            return 1;
        }
    }

    static class Derby extends Bowler {
        @Override
        Integer says(State s, int q) {
            return faith == 0 ? null : super.says(s, q);
        }

        @Override
        int weighs(State s) {
            return super.weighs(s) * 2;
        }

        @Override
        boolean learns(State s) {
            return s.session % 2 != 1 && super.learns(s);
        }
    }

    static class Beret extends Cap {
        @Override
        Integer says(State s, int q) {
            return q == 7 ? Integer.valueOf(1) : super.says(s, q);
        }

        @Override
        int weighs(State s) {
            return super.weighs(s) + (s.session % 3 == 0 ? 1 : 0);
        }

        @Override
        int stirs() {
            return super.stirs() - 7;
        }
    }

    static final class State {
        int session;
        boolean[] truth = unpack(170);
        boolean[] held = unpack(0);
        List<Hat> hats = new ArrayList<>();

        State copy() {
            State s = new State();
            s.session = session;
            s.truth = truth.clone();
            s.held = held.clone();
            for (Hat h : hats) {
                s.hats.add(h.as(h.kind));
            }
            return s;
        }

        int question() {
            return session % 8;
        }

        int votes(int word) {
            int sum = 0;
            for (Hat h : hats) {
                Integer said = h.says(this, question());
                if (h.on && said != null && said == word) {
                    sum += h.weighs(this);
                }
            }
            return sum;
        }

        State next() {
            State s = copy();
            int q = question();
            if (votes(1) > votes(0)) {
                s.held[q] = true;
            }
            if (votes(1) < votes(0)) {
                s.held[q] = false;
            }
            for (int i = 0; i < hats.size(); i++) {
                Hat before = hats.get(i);
                Hat after = s.hats.get(i);
                Integer said = before.says(this, q);
                if (!before.on || said == null) {
                    continue;
                }
                if ((said == 1) == truth[q]) {
                    after.right = Math.min(9999, before.right + 1);
                    after.faith = Math.min(99, before.faith + before.stirs());
                } else {
                    after.wrong = Math.min(9999, before.wrong + 1);
                    after.faith = Math.max(0, before.faith - before.stirs());
                    if (before.learns(this)) {
                        boolean[] seen = unpack(before.view);
                        seen[q] = truth[q];
                        after.view = pack(seen);
                    }
                }
            }
            s.session++;
            return s;
        }

        State after(int n) {
            State s = this;
            for (int i = 0; i < n; i++) {
                s = s.next();
            }
            return s;
        }

        boolean[] trueOnes() {
            boolean[] ones = new boolean[8];
            for (int q = 0; q < 8; q++) {
                ones[q] = held[q] == truth[q];
            }
            return ones;
        }

        int wisdom() {
            return Integer.bitCount(pack(trueOnes()));
        }

        int right() {
            return hats.stream().mapToInt(h -> h.right).sum();
        }

        int wrong() {
            return hats.stream().mapToInt(h -> h.wrong).sum();
        }
    }

    static boolean[] unpack(int set) {
        boolean[] b = new boolean[8];
        for (int i = 0; i < 8; i++) {
            b[i] = (set & 1 << i) != 0;
        }
        return b;
    }

    static int pack(boolean[] b) {
        int set = 0;
        for (int i = 0; i < 8; i++) {
            set += b[i] ? 1 << i : 0;
        }
        return set;
    }

    /** The whole object, in the document's words. */
    static final class Model {
        State now = new State();
        State image;
        final StringBuilder tape = new StringBuilder();
        final long[][] sheets = new long[4][];
        final int[] bits = new int[4];
        final int[] found = new int[7];

        long counted(long finding) {
            found[(int) (-1000000001L - finding)]++;
            return finding;
        }

        boolean in(long v, long a, long b) {
            return a <= v && v <= b;
        }

        boolean noHat(int h) {
            return !in(h, 0, now.hats.size() - 1);
        }

        long call(int name, int a, int b, int c, int[] more, long v) {
            switch (name) {
                case 0: return holds(a, b);
                case 1: return nowOf(a);
                case 2: return hat(a, b);
                case 3: return of(a, b);
                case 4: return noHat(a) || !in(b, 0, 7) ? counted(BEYOND) : word(now, a, b);
                case 5: return set(a, b, c);
                case 6: return turn(a, b);
                case 7: return as(a, b);
                case 8: return sessions(a);
                case 9: return on(a, b, c);
                case 10: return then(a, b);
                case 11: return comes(a, b);
                case 12: return wise();
                case 13: return errs(a);
                case 14: return lift(a);
                case 15: return kind(a, b);
                case 16: return view(a, b);
                case 17: return faith(a, b, c);
                case 18: return swing();
                case 19: return revise(a);
                case 20: return best(a);
                case 21: return feed(a, b);
                case 22: return wipe();
                case 23: return lobby();
                case 24: return sheet(a, b, c);
                case 25: return write(a, b, v);
                case 26: return copy(a, b, c, more[0], more[1]);
                case 27: return lays(a);
                case 28: return book(a, b);
                case 29: return read(a, b);
                case 30: image = now.copy(); return 1;
                case 31: return undo();
                case 32: return tear();
                case 33: return count(a);
                default: return status(a);
            }
        }

        long holds(int what, int set) {
            if (!in(what, 0, 1) || !in(set, 0, 255)) {
                return counted(BEYOND);
            }
            int was = pack(what == 0 ? now.truth : now.held);
            if (what == 0) {
                now.truth = unpack(set);
            } else {
                now.held = unpack(set);
            }
            return was;
        }

        long nowOf(int what) {
            int on = 0;
            for (int h = 0; h < now.hats.size(); h++) {
                on += now.hats.get(h).on ? 1 << h : 0;
            }
            long[] all = {now.session, now.question(), pack(now.truth), pack(now.held), now.votes(1), now.votes(0), on,
                pack(now.trueOnes())};
            return in(what, 0, 7) ? all[what] : counted(BEYOND);
        }

        long hat(int kind, int view) {
            if (!in(kind, 0, 5) || !in(view, 0, 255)) {
                return counted(BEYOND);
            }
            if (now.hats.size() == 10) {
                return counted(FULL);
            }
            Hat h = Hat.make(kind);
            h.view = view;
            now.hats.add(h);
            return now.hats.size() - 1;
        }

        long of(int hat, int what) {
            if (noHat(hat) || !in(what, 0, 8)) {
                return counted(BEYOND);
            }
            Hat h = now.hats.get(hat);
            return new long[] {h.kind, h.view, h.right, h.wrong, h.faith, h.on ? 1 : 0, h.weighs(now),
                h.learns(now) ? 1 : 0, h.stirs()}[what];
        }

        static long word(State s, int hat, int q) {
            Integer said = s.hats.get(hat).says(s, q);
            return said == null ? -1 : said;
        }

        long set(int hat, int what, int v) {
            if (noHat(hat) || !in(what, 1, 5) || !in(v, 0, new int[] {0, 255, 9999, 9999, 99, 1}[what])) {
                return counted(BEYOND);
            }
            Hat h = now.hats.get(hat);
            long was = of(hat, what);
            switch (what) {
                case 1: h.view = v; break;
                case 2: h.right = v; break;
                case 3: h.wrong = v; break;
                case 4: h.faith = v; break;
                default: h.on = v == 1; break;
            }
            return was;
        }

        long turn(int hat, int kind) {
            if (noHat(hat) || !in(kind, 0, 5)) {
                return counted(BEYOND);
            }
            long was = now.hats.get(hat).kind;
            now.hats.set(hat, now.hats.get(hat).as(kind));
            return was;
        }

        long as(int hat, int kind) {
            if (noHat(hat) || !in(kind, 0, 5)) {
                return counted(BEYOND);
            }
            Hat h = now.hats.get(hat);
            return Hat.make(kind).getClass().isInstance(h) ? h.view : counted(KIND);
        }

        long sessions(int n) {
            if (!in(n, 1, 100)) {
                return counted(BEYOND);
            }
            if (now.session + n > 99999) {
                return counted(STATE);
            }
            now = now.after(n);
            return pack(now.held);
        }

        long on(int hat, int n, int what) {
            if (noHat(hat) || !in(n, 0, 200) || !in(what, 0, 3)) {
                return counted(BEYOND);
            }
            Hat h = now.after(n).hats.get(hat);
            return new long[] {h.view, h.right, h.wrong, h.faith}[what];
        }

        long then(int n, int what) {
            if (!in(n, 0, 200) || !in(what, 0, 1)) {
                return counted(BEYOND);
            }
            State s = now.after(n);
            return pack(what == 0 ? s.held : s.trueOnes());
        }

        long comes(int q, int v) {
            if (!in(q, 0, 7) || !in(v, 0, 1)) {
                return counted(BEYOND);
            }
            State s = now;
            for (int n = 0; n <= 200; n++, s = s.next()) {
                if (s.held[q] == (v == 1)) {
                    return n;
                }
            }
            return counted(NONE);
        }

        long wise() {
            State s = now;
            for (int n = 0; n <= 200; n++, s = s.next()) {
                if (s.wisdom() == 8) {
                    return n;
                }
            }
            return counted(NONE);
        }

        long errs(int hat) {
            if (noHat(hat)) {
                return counted(BEYOND);
            }
            State s = now;
            for (int n = 1; n <= 200; n++) {
                s = s.next();
                if (s.hats.get(hat).wrong > now.hats.get(hat).wrong) {
                    return n;
                }
            }
            return counted(NONE);
        }

        State without(int hat) {
            State s = now.copy();
            s.hats.get(hat).on = false;
            return s;
        }

        long lift(int n) {
            if (!in(n, 1, 60)) {
                return counted(BEYOND);
            }
            int[] wisdom = new int[now.hats.size()];
            int most = -1;
            for (int h = 0; h < wisdom.length; h++) {
                wisdom[h] = now.hats.get(h).on ? without(h).after(n).wisdom() : -1;
                most = Math.max(most, wisdom[h]);
            }
            for (int h = 0; h < wisdom.length; h++) {
                if (most >= 0 && wisdom[h] == most) {
                    return h;
                }
            }
            return counted(NONE);
        }

        long kind(int hat, int n) {
            if (noHat(hat) || !in(n, 1, 60)) {
                return counted(BEYOND);
            }
            long best = Long.MIN_VALUE;
            for (int k = 5; k >= 0; k--) {
                State s = now.copy();
                s.hats.set(hat, s.hats.get(hat).as(k));
                best = Math.max(best, s.after(n).hats.get(hat).right * 10L + 9 - k);
            }
            return 9 - best % 10;
        }

        long view(int hat, int n) {
            if (noHat(hat) || !in(n, 1, 32)) {
                return counted(BEYOND);
            }
            long best = Long.MIN_VALUE;
            for (int w = 255; w >= 0; w--) {
                State s = now.copy();
                s.hats.get(hat).view = w;
                best = Math.max(best, s.after(n).wisdom() * 1000L + 999 - w);
            }
            return 999 - best % 1000;
        }

        long faith(int hat, int n, int v) {
            if (noHat(hat) || !in(n, 1, 60) || !in(v, 0, 9999)) {
                return counted(BEYOND);
            }
            for (int f = 0; f < 100; f++) {
                State s = now.copy();
                s.hats.get(hat).faith = f;
                if (s.after(n).hats.get(hat).right >= v) {
                    return f;
                }
            }
            return counted(NONE);
        }

        long swing() {
            for (int h = 0; h < now.hats.size(); h++) {
                if (now.hats.get(h).on && without(h).next().held[now.question()] != now.next().held[now.question()]) {
                    return h;
                }
            }
            return counted(NONE);
        }

        long revise(int n) {
            if (!in(n, 1, 60)) {
                return counted(BEYOND);
            }
            long best = Long.MAX_VALUE;
            for (int q = 0; q < 8; q++) {
                State s = now.copy();
                s.truth[q] = !s.truth[q];
                best = Math.min(best, s.after(n).wrong() * 8L + q);
            }
            return best % 8;
        }

        long best(int n) {
            if (!in(n, 0, 200)) {
                return counted(BEYOND);
            }
            if (now.hats.isEmpty()) {
                return counted(NONE);
            }
            State s = now.after(n);
            int best = 0;
            for (int h = 0; h < s.hats.size(); h++) {
                Hat one = s.hats.get(h);
                Hat top = s.hats.get(best);
                best = one.right - one.wrong > top.right - top.wrong ? h : best;
            }
            return best;
        }

        long feed(int bytes, int n) {
            if (!in(n, 1, 4)) {
                return counted(BEYOND);
            }
            if (tape.length() + n > 120) {
                return counted(FULL);
            }
            byte[] four = java.nio.ByteBuffer.allocate(4).putInt(bytes).array();
            for (int i = 4 - n; i < 4; i++) {
                tape.append((char) (four[i] & 255));
            }
            return tape.length();
        }

        long wipe() {
            int had = tape.length();
            tape.setLength(0);
            return had;
        }

        long lobby() {
            Script script = new Script(tape.toString(), now.copy());
            tape.setLength(0);
            int answer = script.run();
            if (answer >= 0) {
                now = script.state;
            }
            return answer;
        }

        long sheet(int s, int b, int n) {
            if (!in(s, 0, 3) || b != 0 && b != 8 && b != 16 && b != 64) {
                return counted(BEYOND);
            }
            if (n < 0) {
                return counted(SIZE);
            }
            if (n > 40) {
                return counted(BEYOND);
            }
            sheets[s] = b == 0 ? null : new long[n];
            bits[s] = b;
            return b == 0 ? 0 : n;
        }

        long write(int s, int i, long v) {
            if (!in(s, 0, 3)) {
                return counted(BEYOND);
            }
            if (sheets[s] == null) {
                return counted(MISSING);
            }
            if (!in(i, 0, sheets[s].length - 1)) {
                return counted(BEYOND);
            }
            long was = sheets[s][i];
            sheets[s][i] = v << (64 - bits[s]) >> (64 - bits[s]);
            return was;
        }

        long copy(int s, int from, int t, int to, int n) {
            if (!in(s, 0, 3) || !in(t, 0, 3)) {
                return counted(BEYOND);
            }
            if (sheets[s] == null || sheets[t] == null) {
                return counted(MISSING);
            }
            if (bits[s] != bits[t]) {
                return counted(KIND);
            }
            if (from < 0 || to < 0 || n < 0 || (long) from + n > sheets[s].length || (long) to + n > sheets[t].length) {
                return counted(BEYOND);
            }
            long[] were = sheets[s].clone();
            for (int i = 0; i < n; i++) {
                sheets[t][to + i] = were[from + i];
            }
            return n;
        }

        long lays(int s) {
            if (!in(s, 0, 3)) {
                return counted(BEYOND);
            }
            if (sheets[s] == null) {
                return counted(MISSING);
            }
            int came = 0;
            for (int i = 0; i < sheets[s].length; i++) {
                if (in(sheets[s][i], 0, 255) && i < now.hats.size()) {
                    now.hats.get(i).view = (int) sheets[s][i];
                    came++;
                }
            }
            return came;
        }

        long sheetAndHat(int s, int hat) {
            if (!in(s, 0, 3)) {
                return BEYOND;
            }
            if (sheets[s] == null) {
                return MISSING;
            }
            return noHat(hat) ? BEYOND : 0;
        }

        long book(int s, int hat) {
            long finding = sheetAndHat(s, hat);
            if (finding != 0) {
                return counted(finding);
            }
            State state = now;
            for (int i = 0; i < sheets[s].length; i++, state = state.next()) {
                sheets[s][i] = word(state, hat, state.question());
            }
            return sheets[s].length;
        }

        long read(int s, int hat) {
            long finding = sheetAndHat(s, hat);
            if (finding != 0) {
                return counted(finding);
            }
            int pairs = 0;
            for (int pair = 0; pair < 6 * 256; pair++) {
                State state = now.copy();
                Hat h = state.hats.get(hat).as(pair / 256);
                h.view = pair % 256;
                state.hats.set(hat, h);
                boolean same = true;
                for (int i = 0; i < sheets[s].length && same; i++, state = state.next()) {
                    same = sheets[s][i] == word(state, hat, state.question());
                }
                pairs += same ? 1 : 0;
            }
            return pairs;
        }

        long undo() {
            if (image == null) {
                return counted(NONE);
            }
            now = image.copy();
            return now.hats.size();
        }

        long tear() {
            int was = image == null ? 0 : 1;
            image = null;
            return was;
        }

        long count(int what) {
            return in(what, 0, 3)
                ? new long[] {now.hats.size(), tape.length(), now.right(), now.wrong()}[what] : counted(BEYOND);
        }

        long status(int which) {
            if (!in(which, -1, 6)) {
                return counted(BEYOND);
            }
            int all = 0;
            for (int f : found) {
                all += f;
            }
            return which == -1 ? all : found[which];
        }
    }

    /** The text: each token is asked for by a pattern of what may stand there. */
    static final class Script {
        private static final Pattern TOKEN = Pattern.compile("[a-z]+|[0-9]+|[^ ]", Pattern.DOTALL);
        final State state;
        final List<String> tokens = new ArrayList<>();
        final List<Integer> places = new ArrayList<>();
        int at;

        Script(String text, State state) {
            this.state = state;
            Matcher m = TOKEN.matcher(text);
            while (m.find()) {
                tokens.add(m.group());
                places.add(m.start());
            }
            tokens.add("");
            places.add(text.length());
        }

        boolean may(String pattern) {
            if (tokens.get(at).matches(pattern)) {
                at++;
                return true;
            }
            return false;
        }

        String last() {
            return tokens.get(at - 1);
        }

        /** A number that may be, or -1. */
        int number(int most) {
            if (!tokens.get(at).matches("[0-9]+")) {
                return -1;
            }
            java.math.BigInteger n = new java.math.BigInteger(tokens.get(at));
            if (n.compareTo(java.math.BigInteger.valueOf(most)) > 0) {
                return -1;
            }
            at++;
            return n.intValue();
        }

        int run() {
            int items = 0;
            do {
                if (!item()) {
                    return -1 - places.get(at);
                }
                items++;
            } while (may(";"));
            return tokens.get(at).isEmpty() ? items : -1 - places.get(at);
        }

        boolean item() {
            int n;
            if (may("truth")) {
                n = number(255);
                state.truth = unpack(Math.max(n, 0));
                return n >= 0;
            }
            if (may("holds")) {
                n = number(7);
                if (n < 0 || !may("yes|no")) {
                    return false;
                }
                state.held[n] = last().equals("yes");
                return true;
            }
            if (may("lift")) {
                n = number(state.hats.size() - 1);
                if (n >= 0) {
                    state.hats.get(n).on = false;
                }
                return n >= 0;
            }
            if (state.hats.size() == 10 || !may("hat|bowler|cap|topper|derby|beret")) {
                return false;
            }
            Hat h = Hat.make(List.of("hat", "bowler", "cap", "topper", "derby", "beret").indexOf(last()));
            state.hats.add(h);
            if (may("view")) {
                h.view = number(255);
            }
            if (h.view >= 0 && may("faith")) {
                h.faith = number(99);
            }
            if (h.view >= 0 && h.faith >= 0 && may("off")) {
                h.on = false;
            }
            return h.view >= 0 && h.faith >= 0;
        }
    }

    private static final String[] NAMES = {"holds", "now", "hat", "of", "says", "set", "turn", "as", "sessions", "on",
        "then", "comes", "wise", "errs", "lift", "kind", "view", "faith", "swing", "revise", "best", "feed", "wipe",
        "lobby", "sheet", "write", "copy", "lays", "book", "read", "image", "undo", "tear", "count", "status"};

    private static long real(HatCongress x, int name, int a, int b, int c, int[] more, long v) {
        switch (name) {
            case 0: return x.holds(a, b);
            case 1: return x.now(a);
            case 2: return x.hat(a, b);
            case 3: return x.of(a, b);
            case 4: return x.says(a, b);
            case 5: return x.set(a, b, c);
            case 6: return x.turn(a, b);
            case 7: return x.as(a, b);
            case 8: return x.sessions(a);
            case 9: return x.on(a, b, c);
            case 10: return x.then(a, b);
            case 11: return x.comes(a, b);
            case 12: return x.wise();
            case 13: return x.errs(a);
            case 14: return x.lift(a);
            case 15: return x.kind(a, b);
            case 16: return x.view(a, b);
            case 17: return x.faith(a, b, c);
            case 18: return x.swing();
            case 19: return x.revise(a);
            case 20: return x.best(a);
            case 21: return x.feed(a, b);
            case 22: return x.wipe();
            case 23: return x.lobby();
            case 24: return x.sheet(a, b, c);
            case 25: return x.write(a, b, v);
            case 26: return x.copy(a, b, c, more[0], more[1]);
            case 27: return x.lays(a);
            case 28: return x.book(a, b);
            case 29: return x.read(a, b);
            case 30: return x.image();
            case 31: return x.undo();
            case 32: return x.tear();
            case 33: return x.count(a);
            default: return x.status(a);
        }
    }

    /** A number of a range; seldom one just outside it, or far from it. */
    private static int some(Random r, int least, int most) {
        int luck = r.nextInt(60);
        if (luck == 0) {
            return least - 1;
        }
        if (luck == 1) {
            return most + 1;
        }
        if (luck == 2) {
            return new int[] {Integer.MIN_VALUE, Integer.MAX_VALUE, -1, 0, r.nextInt()}[r.nextInt(5)];
        }
        if (luck < 10) {
            return luck % 2 == 0 ? least : most;
        }
        return least + r.nextInt(most - least + 1);
    }

    private static int trait(Random r, int what) {
        int[] most = {1, 255, 9999, 9999, 99, 1};
        int m = what >= 0 && what < most.length ? most[what] : 9;
        return m == 9999 && r.nextInt(4) > 0 ? r.nextInt(6) : some(r, 0, m);
    }

    private static String pick(Random r, String... words) {
        return words[r.nextInt(words.length)];
    }

    private static String item(Random r, int hats) {
        String gap = pick(r, " ", " ", " ", "  ", "");
        switch (r.nextInt(6)) {
            case 0: return "truth" + gap + some(r, 0, 255);
            case 1: return "holds" + gap + some(r, 0, 7) + gap + pick(r, "yes", "no", "yes", "no", "nay");
            case 2: return "lift" + gap + some(r, 0, Math.max(hats, 1));
            default: break;
        }
        StringBuilder b = new StringBuilder(pick(r, "hat", "bowler", "cap", "topper", "derby", "beret"));
        if (r.nextBoolean()) {
            b.append(" view").append(gap).append(some(r, 0, 255));
        }
        if (r.nextBoolean()) {
            b.append(" faith").append(gap).append(some(r, 0, 99));
        }
        if (r.nextInt(4) == 0) {
            b.append(" off");
        }
        return b.toString();
    }

    private static String script(Random r, int hats) {
        StringBuilder b = new StringBuilder(item(r, hats));
        for (int i = r.nextInt(6); i > 0; i--) {
            b.append(pick(r, ";", " ;", "; ", ";", ";;")).append(item(r, hats));
        }
        b.append(pick(r, "", "", "", " ", ";"));
        for (int i = r.nextInt(8) - 6; i > 0 && b.length() > 0; i--) {
            int at = r.nextInt(b.length());
            switch (r.nextInt(3)) {
                case 0: b.deleteCharAt(at); break;
                case 1: b.insert(at, pick(r, " ", "0", "9", ";", "a", "z", "`", "{", "/", ":", "\t", "\u0000", "\u00ff")); break;
                default: b.setLength(at); break;
            }
        }
        return b.length() > 118 ? b.substring(0, 118) : b.toString();
    }

    private final Random r;
    private final int run;
    private final HatCongress x = new HatCongress();
    private final Model m = new Model();
    private final StringBuilder told = new StringBuilder();
    private final long[] seen;
    private int calls;
    private boolean wrong;

    private ModelTest(int run, long[] seen) {
        this.run = run;
        this.seen = seen;
        r = new Random(run);
    }

    private void ask(int name, int a, int b, int c, int[] more, long v) {
        if (wrong || calls++ >= CALLS) {
            return;
        }
        long got = real(x, name, a, b, c, more, v);
        long want = m.call(name, a, b, c, more, v);
        seen[name]++;
        told.append(NAMES[name]).append('(').append(a).append(", ").append(b).append(", ").append(c).append(", ")
            .append(more[0]).append(", ").append(more[1]).append("; ").append(v).append(") = ").append(got).append('\n');
        if (got != want) {
            wrong = true;
            System.out.println(told.substring(Math.max(0, told.length() - 2000)));
            System.out.println("run " + run + ", call " + calls + ": " + NAMES[name] + " answered " + got + ", due is " + want);
        }
    }

    private void feedScript() {
        ask(22, 0, 0, 0, new int[2], 0);
        byte[] bytes = script(r, m.now.hats.size()).getBytes(java.nio.charset.StandardCharsets.ISO_8859_1);
        for (int i = 0; i < bytes.length; ) {
            int n = Math.min(1 + r.nextInt(4), bytes.length - i);
            int word = r.nextInt();
            for (int k = 0; k < n; k++) {
                word = word << 8 | bytes[i++] & 255;
            }
            ask(21, word, n, 0, new int[2], 0);
        }
        ask(23, 0, 0, 0, new int[2], 0);
    }

    private int hatNumber() {
        return some(r, 0, Math.max(0, m.now.hats.size() - 1));
    }

    private void oneCall() {
        int name = r.nextInt(NAMES.length);
        // The dear ones are asked less often, that the runs end soon.
        if ((name >= 14 && name <= 19 || name == 29) && r.nextInt(6) > 0) {
            name = new int[] {2, 5, 6, 0, 8}[r.nextInt(5)];
        }
        if (name == 2 && m.now.hats.size() > 5 && r.nextInt(3) > 0) {
            name = 5;
        }
        if (name == 21 || name == 22) {
            feedScript();
            return;
        }
        int[] more = {some(r, 0, 8), some(r, 0, 8)};
        long v = r.nextInt(3) == 0 ? r.nextLong() : some(r, -1, r.nextBoolean() ? 1 : 300);
        int hat = hatNumber();
        int n60 = some(r, 1, 60);
        int n200 = some(r, 0, 200);
        switch (name) {
            case 0: ask(name, some(r, 0, 1), some(r, 0, 255), 0, more, v); break;
            case 1: ask(name, some(r, 0, 7), 0, 0, more, v); break;
            case 2: ask(name, some(r, 0, 5), some(r, 0, 255), 0, more, v); break;
            case 3: ask(name, hat, some(r, 0, 8), 0, more, v); break;
            case 4: ask(name, hat, some(r, 0, 7), 0, more, v); break;
            case 5:
                int what = some(r, 1, 5);
                ask(name, hat, what, trait(r, what), more, v);
                break;
            case 6: case 7: ask(name, hat, some(r, 0, 5), 0, more, v); break;
            case 8: ask(name, r.nextInt(4) > 0 ? some(r, 1, 9) : some(r, 1, 100), 0, 0, more, v); break;
            case 9: ask(name, hat, n200, some(r, 0, 3), more, v); break;
            case 10: ask(name, n200, some(r, 0, 1), 0, more, v); break;
            case 11: ask(name, some(r, 0, 7), some(r, 0, 1), 0, more, v); break;
            case 13: ask(name, hat, 0, 0, more, v); break;
            case 14: case 19: ask(name, n60, 0, 0, more, v); break;
            case 15: ask(name, hat, n60, 0, more, v); break;
            case 16: ask(name, hat, r.nextInt(3) > 0 ? some(r, 1, 9) : some(r, 1, 32), 0, more, v); break;
            case 17: ask(name, hat, n60, r.nextBoolean() ? some(r, 0, 40) : some(r, 0, 9999), more, v); break;
            case 20: ask(name, n200, 0, 0, more, v); break;
            case 24: ask(name, some(r, 0, 3), pickBits(), r.nextBoolean() ? some(r, 0, 10) : some(r, 0, 40), more, v); break;
            case 25: ask(name, some(r, 0, 3), some(r, 0, 10), 0, more, v); break;
            case 26: ask(name, some(r, 0, 3), some(r, 0, 8), some(r, 0, 3), more, v); break;
            case 27: ask(name, some(r, 0, 3), 0, 0, more, v); break;
            case 28: case 29: ask(name, some(r, 0, 3), hat, 0, more, v); break;
            case 33: ask(name, some(r, 0, 3), 0, 0, more, v); break;
            case 34: ask(name, some(r, -1, 6), 0, 0, more, v); break;
            default: ask(name, 0, 0, 0, more, v); break;
        }
        if (name == 28 && r.nextBoolean()) {
            ask(29, some(r, 0, 3), hat, 0, more, v);
        }
    }

    private int pickBits() {
        int bits = some(r, 0, 6);
        return bits >= 0 && bits <= 6 ? new int[] {0, 8, 8, 16, 16, 64, 64}[bits] : bits;
    }

    private void endState() {
        for (int what = 0; what < 8; what++) {
            ask(1, what, 0, 0, new int[2], 0);
        }
        for (int h = 0; h < 10; h++) {
            for (int what = 0; what < 6; what++) {
                ask(3, h, what, 0, new int[2], 0);
            }
        }
        for (int which = -1; which < 7; which++) {
            ask(34, which, 0, 0, new int[2], 0);
        }
    }

    private boolean runs(int most) {
        while (!wrong && calls < most) {
            oneCall();
        }
        endState();
        return !wrong;
    }

    public static void main(String[] args) {
        int wrong = 0;
        long[] seen = new long[NAMES.length];
        for (int run = 0; run < RUNS && wrong < 5; run++) {
            if (!new ModelTest(run, seen).runs(run % 10 == 0 ? 420 : 60)) {
                wrong++;
            }
        }
        for (int name = 0; name < NAMES.length; name++) {
            if (seen[name] == 0) {
                wrong++;
                System.out.println("no run ever asked " + NAMES[name]);
            }
        }
        System.out.println(java.util.Arrays.stream(seen).sum() + " calls, " + wrong + " runs not as due");
        if (wrong != 0) {
            System.exit(1);
        }
    }
}
