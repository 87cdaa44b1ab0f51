import java.util.Arrays;

/** A congress of hats: ../shared/DOC.md tells, promise by promise, what each call answers. */
public final class HatCongress {
    private static final int BEYOND = -1000000001;
    private static final int FULL = -1000000002;
    private static final int KIND = -1000000003;
    private static final int NONE = -1000000004;
    private static final int STATE = -1000000005;
    private static final int MISSING = -1000000006;
    private static final int SIZE = -1000000007;

    private static final int FINDINGS = 7;
    private static final int QUESTIONS = 8;
    private static final int ALL_QUESTIONS = 255;
    private static final int KINDS = 6;
    private static final int MOST_HATS = 10;
    private static final int MOST_TIMES = 9999;
    private static final int MOST_FAITH = 99;
    private static final int LAST_SESSION = 99999;
    private static final int FARTHEST = 200;
    private static final int SHEETS = 4;
    private static final int MOST_NUMBERS = 40;
    private static final int MOST_BYTES = 120;

    private final Table table = new Table();
    /** What is AHEAD is played out here, so that nothing on the table itself changes. */
    private final Table ahead = new Table();
    private final Table image = new Table();
    private boolean imageKept;
    private final Clerk clerk = new Clerk();
    private final Sheet[] sheets = new Sheet[SHEETS];
    private final int[] found = new int[FINDINGS];

    public HatCongress() {
        for (int s = 0; s < SHEETS; s++) {
            sheets[s] = new Sheet();
        }
    }

    // ---- the congress

    public int holds(int what, int set) {
        if (outside(what, 0, 1) || outside(set, 0, ALL_QUESTIONS)) {
            return finding(BEYOND);
        }
        int was = what == 0 ? table.truth : table.held;
        if (what == 0) {
            table.truth = set;
        } else {
            table.held = set;
        }
        return was;
    }

    public int now(int what) {
        switch (what) {
            case 0:
                return table.session;
            case 1:
                return table.question();
            case 2:
                return table.truth;
            case 3:
                return table.held;
            case 4:
                table.ask();
                return table.yes;
            case 5:
                table.ask();
                return table.no;
            case 6:
                return table.hatsOn();
            case 7:
                return table.trueOnes();
            default:
                return finding(BEYOND);
        }
    }

    // ---- hats

    public int hat(int kind, int view) {
        if (outside(kind, 0, KINDS - 1) || outside(view, 0, ALL_QUESTIONS)) {
            return finding(BEYOND);
        }
        if (table.isFull()) {
            return finding(FULL);
        }
        table.add(kind, view);
        return table.hats - 1;
    }

    public int of(int hat, int what) {
        if (!table.has(hat) || outside(what, 0, 8)) {
            return finding(BEYOND);
        }
        Delegate one = table.seats[hat];
        switch (what) {
            case 6:
                return one.weight(table.session);
            case 7:
                return one.isLearning(table.session) ? 1 : 0;
            case 8:
                return one.stir();
            default:
                return one.trait(what);
        }
    }

    public int says(int hat, int question) {
        if (!table.has(hat) || outside(question, 0, QUESTIONS - 1)) {
            return finding(BEYOND);
        }
        return table.seats[hat].answer(question, table.held);
    }

    public int set(int hat, int what, int v) {
        if (!table.has(hat) || outside(what, Delegate.VIEW, Delegate.ON)
                || outside(v, 0, Delegate.mostOf(what))) {
            return finding(BEYOND);
        }
        Delegate one = table.seats[hat];
        int was = one.trait(what);
        one.put(what, v);
        return was;
    }

    public int turn(int hat, int kind) {
        if (!table.has(hat) || outside(kind, 0, KINDS - 1)) {
            return finding(BEYOND);
        }
        int was = table.seats[hat].kind;
        table.seats[hat].kind = kind;
        return was;
    }

    public int as(int hat, int kind) {
        if (!table.has(hat) || outside(kind, 0, KINDS - 1)) {
            return finding(BEYOND);
        }
        Delegate one = table.seats[hat];
        return one.isOfKind(kind) ? one.view : finding(KIND);
    }

    // ---- sessions

    public int sessions(int n) {
        if (outside(n, 1, 100)) {
            return finding(BEYOND);
        }
        if (table.session > LAST_SESSION - n) {
            return finding(STATE);
        }
        table.go(n);
        return table.held;
    }

    public int on(int hat, int n, int what) {
        if (!table.has(hat) || outside(n, 0, FARTHEST) || outside(what, 0, 3)) {
            return finding(BEYOND);
        }
        lookAhead(n);
        return ahead.seats[hat].trait(Delegate.VIEW + what);
    }

    public int then(int n, int what) {
        if (outside(n, 0, FARTHEST) || outside(what, 0, 1)) {
            return finding(BEYOND);
        }
        lookAhead(n);
        return what == 0 ? ahead.held : ahead.trueOnes();
    }

    public int comes(int question, int v) {
        if (outside(question, 0, QUESTIONS - 1) || outside(v, 0, 1)) {
            return finding(BEYOND);
        }
        ahead.become(table);
        for (int n = 0; n <= FARTHEST; n++) {
            if (bit(ahead.held, question) == v) {
                return n;
            }
            ahead.go(1);
        }
        return finding(NONE);
    }

    public int wise() {
        ahead.become(table);
        for (int n = 0; n <= FARTHEST; n++) {
            if (ahead.trueOnes() == ALL_QUESTIONS) {
                return n;
            }
            ahead.go(1);
        }
        return finding(NONE);
    }

    public int errs(int hat) {
        if (!table.has(hat)) {
            return finding(BEYOND);
        }
        int wrongNow = table.seats[hat].wrong;
        ahead.become(table);
        for (int n = 1; n <= FARTHEST; n++) {
            ahead.go(1);
            if (ahead.seats[hat].wrong > wrongNow) {
                return n;
            }
        }
        return finding(NONE);
    }

    // ---- what is best

    public int lift(int n) {
        if (outside(n, 1, 60)) {
            return finding(BEYOND);
        }
        int chosen = -1;
        int most = -1;
        for (int h = 0; h < table.hats; h++) {
            if (table.seats[h].on == 0) {
                continue;
            }
            ahead.become(table);
            ahead.seats[h].on = 0;
            ahead.go(n);
            int ones = Integer.bitCount(ahead.trueOnes());
            if (ones > most) {
                most = ones;
                chosen = h;
            }
        }
        return chosen < 0 ? finding(NONE) : chosen;
    }

    public int kind(int hat, int n) {
        if (!table.has(hat) || outside(n, 1, 60)) {
            return finding(BEYOND);
        }
        int chosen = 0;
        int most = -1;
        for (int k = 0; k < KINDS; k++) {
            ahead.become(table);
            ahead.seats[hat].kind = k;
            ahead.go(n);
            if (ahead.seats[hat].right > most) {
                most = ahead.seats[hat].right;
                chosen = k;
            }
        }
        return chosen;
    }

    public int view(int hat, int n) {
        if (!table.has(hat) || outside(n, 1, 32)) {
            return finding(BEYOND);
        }
        int chosen = 0;
        int most = -1;
        for (int w = 0; w <= ALL_QUESTIONS; w++) {
            ahead.become(table);
            ahead.seats[hat].view = w;
            ahead.go(n);
            int ones = Integer.bitCount(ahead.trueOnes());
            if (ones > most) {
                most = ones;
                chosen = w;
            }
        }
        return chosen;
    }

    public int faith(int hat, int n, int v) {
        if (!table.has(hat) || outside(n, 1, 60) || outside(v, 0, MOST_TIMES)) {
            return finding(BEYOND);
        }
        for (int f = 0; f <= MOST_FAITH; f++) {
            ahead.become(table);
            ahead.seats[hat].faith = f;
            ahead.go(n);
            if (ahead.seats[hat].right >= v) {
                return f;
            }
        }
        return finding(NONE);
    }

    public int swing() {
        table.ask();
        int together = table.verdict();
        for (int h = 0; h < table.hats; h++) {
            if (table.seats[h].on == 0) {
                continue;
            }
            ahead.become(table);
            ahead.seats[h].on = 0;
            ahead.ask();
            if (ahead.verdict() != together) {
                return h;
            }
        }
        return finding(NONE);
    }

    public int revise(int n) {
        if (outside(n, 1, 60)) {
            return finding(BEYOND);
        }
        int chosen = 0;
        int least = MOST_HATS * MOST_TIMES + 1;
        for (int q = 0; q < QUESTIONS; q++) {
            ahead.become(table);
            ahead.truth ^= 1 << q;
            ahead.go(n);
            int wrongs = ahead.sum(Delegate.WRONG);
            if (wrongs < least) {
                least = wrongs;
                chosen = q;
            }
        }
        return chosen;
    }

    public int best(int n) {
        if (outside(n, 0, FARTHEST)) {
            return finding(BEYOND);
        }
        if (table.hats == 0) {
            return finding(NONE);
        }
        lookAhead(n);
        int chosen = 0;
        for (int h = 1; h < ahead.hats; h++) {
            if (ahead.seats[h].credit() > ahead.seats[chosen].credit()) {
                chosen = h;
            }
        }
        return chosen;
    }

    // ---- the text

    public int feed(int bytes, int n) {
        if (outside(n, 1, 4)) {
            return finding(BEYOND);
        }
        if (clerk.tape.length > MOST_BYTES - n) {
            return finding(FULL);
        }
        for (int i = n - 1; i >= 0; i--) {
            clerk.tape.add((bytes >>> (8 * i)) & 255);
        }
        return clerk.tape.length;
    }

    public int wipe() {
        int had = clerk.tape.length;
        clerk.tape.length = 0;
        return had;
    }

    public int lobby() {
        // The text is taken down beside the table first: a fault in its last item undoes them all.
        ahead.become(table);
        int answer = clerk.takeDown(ahead);
        if (answer >= 0) {
            table.become(ahead);
        }
        clerk.tape.length = 0;
        return answer;
    }

    // ---- sheets

    public int sheet(int s, int bits, int n) {
        if (noSheet(s) || !Sheet.mayHave(bits)) {
            return finding(BEYOND);
        }
        if (n < 0) {
            return finding(SIZE);
        }
        if (n > MOST_NUMBERS) {
            return finding(BEYOND);
        }
        sheets[s].begin(bits, n);
        return sheets[s].length;
    }

    public long write(int s, int i, long v) {
        if (noSheet(s)) {
            return finding(BEYOND);
        }
        if (sheets[s].isMissing()) {
            return finding(MISSING);
        }
        if (outside(i, 0, sheets[s].length - 1)) {
            return finding(BEYOND);
        }
        long was = sheets[s].numbers[i];
        sheets[s].put(i, v);
        return was;
    }

    public int copy(int s, int from, int t, int to, int n) {
        if (noSheet(s) || noSheet(t)) {
            return finding(BEYOND);
        }
        if (sheets[s].isMissing() || sheets[t].isMissing()) {
            return finding(MISSING);
        }
        if (sheets[s].bits != sheets[t].bits) {
            return finding(KIND);
        }
        if (!sheets[s].hasRun(from, n) || !sheets[t].hasRun(to, n)) {
            return finding(BEYOND);
        }
        // arraycopy within one row goes as if by way of a third one: "as they all were".
        System.arraycopy(sheets[s].numbers, from, sheets[t].numbers, to, n);
        return n;
    }

    public int lays(int s) {
        if (noSheet(s)) {
            return finding(BEYOND);
        }
        if (sheets[s].isMissing()) {
            return finding(MISSING);
        }
        int came = 0;
        for (int i = 0; i < sheets[s].length && i < table.hats; i++) {
            long view = sheets[s].numbers[i];
            if (view >= 0 && view <= ALL_QUESTIONS) {
                table.seats[i].view = (int) view;
                came++;
            }
        }
        return came;
    }

    public int book(int s, int hat) {
        if (noSheet(s)) {
            return finding(BEYOND);
        }
        if (sheets[s].isMissing()) {
            return finding(MISSING);
        }
        if (!table.has(hat)) {
            return finding(BEYOND);
        }
        ahead.become(table);
        for (int i = 0; i < sheets[s].length; i++) {
            sheets[s].put(i, ahead.word(hat));
            ahead.go(1);
        }
        return sheets[s].length;
    }

    public int read(int s, int hat) {
        if (noSheet(s)) {
            return finding(BEYOND);
        }
        if (sheets[s].isMissing()) {
            return finding(MISSING);
        }
        if (!table.has(hat)) {
            return finding(BEYOND);
        }
        int pairs = 0;
        for (int k = 0; k < KINDS; k++) {
            for (int w = 0; w <= ALL_QUESTIONS; w++) {
                ahead.become(table);
                ahead.seats[hat].kind = k;
                ahead.seats[hat].view = w;
                if (saysJustSo(sheets[s], hat)) {
                    pairs++;
                }
            }
        }
        return pairs;
    }

    // ---- images

    public int image() {
        image.become(table);
        imageKept = true;
        return 1;
    }

    public int undo() {
        if (!imageKept) {
            return finding(NONE);
        }
        table.become(image);
        return table.hats;
    }

    public int tear() {
        int was = imageKept ? 1 : 0;
        imageKept = false;
        return was;
    }

    public int count(int what) {
        switch (what) {
            case 0:
                return table.hats;
            case 1:
                return clerk.tape.length;
            case 2:
                return table.sum(Delegate.RIGHT);
            case 3:
                return table.sum(Delegate.WRONG);
            default:
                return finding(BEYOND);
        }
    }

    public int status(int which) {
        if (outside(which, -1, FINDINGS - 1)) {
            return finding(BEYOND);
        }
        if (which >= 0) {
            return found[which];
        }
        int all = 0;
        for (int f = 0; f < FINDINGS; f++) {
            all += found[f];
        }
        return all;
    }

    // ---- what the calls share

    private static boolean outside(int v, int least, int most) {
        return v < least || v > most;
    }

    private static int bit(int set, int q) {
        return (set >> q) & 1;
    }

    private static boolean noSheet(int s) {
        return outside(s, 0, SHEETS - 1);
    }

    /** Every finding passes here, so that status() counts just what was answered. */
    private int finding(int which) {
        int f = BEYOND - which;
        if (!outside(f, 0, FINDINGS - 1)) {
            found[f]++;
        }
        return which;
    }

    private void lookAhead(int n) {
        ahead.become(table);
        ahead.go(n);
    }

    /** Whether the hat AHEAD, from now on, says what the sheet has; it plays no farther than it must. */
    private boolean saysJustSo(Sheet sheet, int hat) {
        for (int i = 0; i < sheet.length; i++) {
            if (ahead.word(hat) != sheet.numbers[i]) {
                return false;
            }
            ahead.go(1);
        }
        return true;
    }

    /** One hat. */
    private static final class Delegate {
        static final int HAT = 0;
        static final int BOWLER = 1;
        static final int CAP = 2;
        static final int TOPPER = 3;
        static final int DERBY = 4;
        static final int BERET = 5;

        /** What the calls of() and set() name the traits by. */
        static final int VIEW = 1;
        static final int RIGHT = 2;
        static final int WRONG = 3;
        static final int FAITH = 4;
        static final int ON = 5;

        static final int NOTHING = -1;

        int kind;
        int view;
        int right;
        int wrong;
        int faith;
        int on;
        /** What it said when the session began: the votes are all cast before any hat is judged. */
        int said;

        void begin(int newKind, int newView) {
            kind = newKind;
            view = newView;
            right = 0;
            wrong = 0;
            faith = 50;
            on = 1;
        }

        void become(Delegate other) {
            kind = other.kind;
            view = other.view;
            right = other.right;
            wrong = other.wrong;
            faith = other.faith;
            on = other.on;
        }

        int trait(int what) {
            switch (what) {
                case VIEW:
                    return view;
                case RIGHT:
                    return right;
                case WRONG:
                    return wrong;
                case FAITH:
                    return faith;
                case ON:
                    return on;
                default:
                    return kind;
            }
        }

        void put(int what, int v) {
            switch (what) {
                case VIEW:
                    view = v;
                    break;
                case RIGHT:
                    right = v;
                    break;
                case WRONG:
                    wrong = v;
                    break;
                case FAITH:
                    faith = v;
                    break;
                default:
                    on = v;
                    break;
            }
        }

        static int mostOf(int what) {
            switch (what) {
                case VIEW:
                    return ALL_QUESTIONS;
                case FAITH:
                    return MOST_FAITH;
                case ON:
                    return 1;
                default:
                    return MOST_TIMES;
            }
        }

        boolean isOfKind(int wanted) {
            return wanted == kind || wanted == HAT
                    || (wanted == BOWLER && kind == DERBY)
                    || (wanted == CAP && kind == BERET);
        }

        /** SAYS. */
        int answer(int question, int held) {
            switch (kind) {
                case BOWLER:
                    return answerAsBowler(question);
                case CAP:
                    return answerAsCap(question, held);
                case TOPPER:
                    return wrong == 0 && right < 3 ? NOTHING : bit(view, question);
                case DERBY:
                    return faith == 0 ? NOTHING : answerAsBowler(question);
                case BERET:
                    return question == 7 ? 1 : answerAsCap(question, held);
                default:
                    return bit(view, question);
            }
        }

        private int answerAsBowler(int question) {
            return wrong > right ? 1 - bit(view, question) : bit(view, question);
        }

        private int answerAsCap(int question, int held) {
            return bit(faith < 30 ? held : view, question);
        }

        /** WEIGHS. */
        int weight(int session) {
            switch (kind) {
                case BOWLER:
                    return 1 + faith / 50;
                case TOPPER:
                    return 3;
                case DERBY:
                    return 2 * (1 + faith / 50);
                case BERET:
                    return session % 3 == 0 ? 2 : 1;
                default:
                    return 1;
            }
        }

        /** LEARNS. */
        boolean isLearning(int session) {
            switch (kind) {
                case BOWLER:
                    return true;
                case TOPPER:
                    return false;
                case DERBY:
                    return session % 2 == 0;
                default:
                    return faith >= 50;
            }
        }

        /** STIRS. */
        int stir() {
            switch (kind) {
                case CAP:
                    return 10;
                case TOPPER:
                    return 1;
                case BOWLER:
                case DERBY:
                case BERET:
                    return 3;
                default:
                    return 5;
            }
        }

        void beRight() {
            right = Math.min(right + 1, MOST_TIMES);
            faith = Math.min(faith + stir(), MOST_FAITH);
        }

        void beWrong(int session, int question, int truth) {
            // Learning goes by the faith it had before it was shaken.
            if (isLearning(session)) {
                int place = 1 << question;
                view = (view & ~place) | (truth & place);
            }
            wrong = Math.min(wrong + 1, MOST_TIMES);
            faith = Math.max(faith - stir(), 0);
        }

        int credit() {
            return right - wrong;
        }
    }

    /** All that section 1 of the document tells, but for the tape. */
    private static final class Table {
        int session;
        int truth = 170;
        int held;
        int hats;
        final Delegate[] seats = new Delegate[MOST_HATS];
        /** What the hats that are on weigh on either side, once they have been asked. */
        int yes;
        int no;

        Table() {
            for (int h = 0; h < MOST_HATS; h++) {
                seats[h] = new Delegate();
            }
        }

        void become(Table other) {
            session = other.session;
            truth = other.truth;
            held = other.held;
            hats = other.hats;
            for (int h = 0; h < hats; h++) {
                seats[h].become(other.seats[h]);
            }
        }

        boolean has(int hat) {
            return hat >= 0 && hat < hats;
        }

        boolean isFull() {
            return hats >= MOST_HATS;
        }

        void add(int kind, int view) {
            if (!isFull()) {
                seats[hats].begin(kind, view);
                hats++;
            }
        }

        int question() {
            return session % QUESTIONS;
        }

        int trueOnes() {
            return ~(held ^ truth) & ALL_QUESTIONS;
        }

        int hatsOn() {
            int set = 0;
            for (int h = 0; h < hats; h++) {
                set |= seats[h].on << h;
            }
            return set;
        }

        int sum(int what) {
            int all = 0;
            for (int h = 0; h < hats; h++) {
                all += seats[h].trait(what);
            }
            return all;
        }

        /** What a hat says to the question of this session, whether it is on or off. */
        int word(int hat) {
            return has(hat) ? seats[hat].answer(question(), held) : Delegate.NOTHING;
        }

        void ask() {
            int question = question();
            yes = 0;
            no = 0;
            for (int h = 0; h < hats; h++) {
                Delegate one = seats[h];
                one.said = one.on == 0 ? Delegate.NOTHING : one.answer(question, held);
                if (one.said == 1) {
                    yes += one.weight(session);
                } else if (one.said == 0) {
                    no += one.weight(session);
                }
            }
        }

        /** What the congress holds to this session's question, once the hats have been asked. */
        int verdict() {
            if (yes == no) {
                return bit(held, question());
            }
            return yes > no ? 1 : 0;
        }

        void go(int n) {
            for (int i = 0; i < n; i++) {
                int question = question();
                ask();
                held = (held & ~(1 << question)) | (verdict() << question);
                for (int h = 0; h < hats; h++) {
                    judge(seats[h], question);
                }
                session++;
            }
        }

        private void judge(Delegate one, int question) {
            if (one.said == Delegate.NOTHING) {
                return;
            }
            if (one.said == bit(truth, question)) {
                one.beRight();
            } else {
                one.beWrong(session, question, truth);
            }
        }
    }

    /** The bytes that were fed. */
    private static final class Tape {
        final int[] bytes = new int[MOST_BYTES];
        int length;

        void add(int b) {
            if (length < MOST_BYTES) {
                bytes[length] = b;
                length++;
            }
        }

        boolean isAt(int place, int least, int most) {
            return place >= 0 && place < length && bytes[place] >= least && bytes[place] <= most;
        }

        /** The first place from one on whose byte is not of that range. */
        int endOfRun(int from, int least, int most) {
            int place = from < 0 ? 0 : from;
            while (place < length && bytes[place] >= least && bytes[place] <= most) {
                place++;
            }
            return place;
        }
    }

    /** Keeps the tape, and takes down the text of a lobby from it, a token at a time. */
    private static final class Clerk {
        private static final int END = 0;
        private static final int WORD = 1;
        private static final int NUMBER = 2;
        private static final int SEMICOLON = 3;
        private static final int OTHER = 4;
        /** Above every number that may be: no more digits are counted in, so that none runs over. */
        private static final int TOO_MUCH = 1000;

        final Tape tape = new Tape();
        private int token;
        private int start;
        private int end;
        private int number;

        /** How many items came to the table, or -1 less the place of the fault. */
        int takeDown(Table onto) {
            end = 0;
            // No item is shorter than a byte, so the tape has no more items than bytes.
            for (int items = 1; items <= MOST_BYTES; items++) {
                next();
                if (!item(onto)) {
                    return -1 - start;
                }
                if (token == END) {
                    return items;
                }
                if (token != SEMICOLON) {
                    return -1 - start;
                }
            }
            return -1 - tape.length;
        }

        /** Each rule below leaves the token that it could not take where it is: there is the fault. */
        private boolean item(Table onto) {
            int kind = kindNamed();
            if (kind >= 0) {
                return hatItem(onto, kind);
            }
            if (takes("truth")) {
                return truthItem(onto);
            }
            if (takes("holds")) {
                return holdsItem(onto);
            }
            if (takes("lift")) {
                return liftItem(onto);
            }
            return false;
        }

        private boolean hatItem(Table onto, int kind) {
            if (onto.isFull()) {
                return false;
            }
            onto.add(kind, 0);
            Delegate one = onto.seats[onto.hats - 1];
            next();
            if (takes("view")) {
                if (!isNumberUpTo(ALL_QUESTIONS)) {
                    return false;
                }
                one.view = number;
                next();
            }
            if (takes("faith")) {
                if (!isNumberUpTo(MOST_FAITH)) {
                    return false;
                }
                one.faith = number;
                next();
            }
            if (takes("off")) {
                one.on = 0;
            }
            return true;
        }

        private boolean truthItem(Table onto) {
            if (!isNumberUpTo(ALL_QUESTIONS)) {
                return false;
            }
            onto.truth = number;
            next();
            return true;
        }

        private boolean holdsItem(Table onto) {
            if (!isNumberUpTo(QUESTIONS - 1)) {
                return false;
            }
            int place = 1 << number;
            next();
            if (takes("yes")) {
                onto.held |= place;
                return true;
            }
            if (takes("no")) {
                onto.held &= ~place;
                return true;
            }
            return false;
        }

        private boolean liftItem(Table onto) {
            if (!isNumberUpTo(onto.hats - 1)) {
                return false;
            }
            if (onto.has(number)) {
                onto.seats[number].on = 0;
            }
            next();
            return true;
        }

        private int kindNamed() {
            for (int kind = 0; kind < KINDS; kind++) {
                if (isWord(nameOf(kind))) {
                    return kind;
                }
            }
            return -1;
        }

        private static String nameOf(int kind) {
            switch (kind) {
                case Delegate.BOWLER:
                    return "bowler";
                case Delegate.CAP:
                    return "cap";
                case Delegate.TOPPER:
                    return "topper";
                case Delegate.DERBY:
                    return "derby";
                case Delegate.BERET:
                    return "beret";
                default:
                    return "hat";
            }
        }

        private boolean isNumberUpTo(int most) {
            return token == NUMBER && number <= most;
        }

        private boolean isWord(String name) {
            if (token != WORD || end - start != name.length()) {
                return false;
            }
            for (int i = 0; i < name.length(); i++) {
                char letter = name.charAt(i);
                if (!tape.isAt(start + i, letter, letter)) {
                    return false;
                }
            }
            return true;
        }

        private boolean takes(String name) {
            if (!isWord(name)) {
                return false;
            }
            next();
            return true;
        }

        private void next() {
            start = tape.endOfRun(end, ' ', ' ');
            end = start;
            if (start >= tape.length) {
                token = END;
            } else if (tape.isAt(start, 'a', 'z')) {
                token = WORD;
                end = tape.endOfRun(start, 'a', 'z');
            } else if (tape.isAt(start, '0', '9')) {
                token = NUMBER;
                end = tape.endOfRun(start, '0', '9');
                number = valueOfDigits();
            } else {
                token = tape.isAt(start, ';', ';') ? SEMICOLON : OTHER;
                end = start + 1;
            }
        }

        private int valueOfDigits() {
            int value = 0;
            for (int i = start; i < end && i < tape.length && value < TOO_MUCH; i++) {
                value = value * 10 + tape.bytes[i] - '0';
            }
            return value;
        }
    }

    /** A row of numbers; bits 0 stands for one that is missing. */
    private static final class Sheet {
        final long[] numbers = new long[MOST_NUMBERS];
        int bits;
        int length;

        static boolean mayHave(int bits) {
            return bits == 0 || bits == 8 || bits == 16 || bits == 64;
        }

        boolean isMissing() {
            return bits == 0;
        }

        void begin(int newBits, int n) {
            bits = newBits;
            length = isMissing() ? 0 : Math.min(n, MOST_NUMBERS);
            Arrays.fill(numbers, 0L);
        }

        /** Keeps the lowest bits of a number, with its sign: 255 in 8 bits is -1. */
        void put(int i, long v) {
            if (i < 0 || i >= length) {
                return;
            }
            if (bits == 8) {
                numbers[i] = (byte) v;
            } else if (bits == 16) {
                numbers[i] = (short) v;
            } else {
                numbers[i] = v;
            }
        }

        boolean hasRun(int from, int n) {
            return from >= 0 && n >= 0 && n <= length && from <= length - n;
        }
    }
}
