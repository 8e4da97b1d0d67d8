/** Coins in the basin are votes: a basin with two sides for each question, people of kinds, days and a net at dawn. */
public final class BasinVotes {
    // A finding is told by its place; its answer is FINDINGS_ABOVE less that place.
    private static final int FINDINGS_ABOVE = -1000000001;
    private static final int BEYOND = 0;
    private static final int FULL = 1;
    private static final int KIND = 2;
    private static final int NONE = 3;
    private static final int STATE = 4;
    private static final int MISSING = 5;
    private static final int SIZE = 6;
    private static final int FINDINGS = 7;

    private static final int QUESTIONS = 6;
    private static final int ALL_QUESTIONS = 63;
    private static final int MOST_PEOPLE = 8;
    private static final int MOST_PENCE = 9999;
    private static final int FIRST_PENCE = 20;
    private static final int LAST_DAY = 99999;
    private static final int FARTHEST = 200;

    private static final int LEFT = 0;
    private static final int RIGHT = 1;

    private static final int THROWER = 0;
    private static final int LADY = 1;
    private static final int BOY = 2;
    private static final int STRANGER = 3;
    private static final int AGENT = 4;
    private static final int DIVER = 5;
    private static final int KINDS = 6;

    private final Town real;
    // Every look ahead and every reading of a text goes on here, so that no call makes a town of its own.
    private final Town trial;
    private final Town kept;
    private boolean keeps;
    private final Tape tape;
    private final TextReader reader;
    private final Sheets sheets;
    private final int[] findings;

    public BasinVotes() {
        real = new Town();
        trial = new Town();
        kept = new Town();
        keeps = false;
        tape = new Tape();
        reader = new TextReader(tape, trial);
        sheets = new Sheets();
        findings = new int[FINDINGS];
    }

    // ---- the basin

    public int lies(int question, int side, int v) {
        if (!isQuestion(question) || !isSide(side) || !isPence(v)) {
            return finding(BEYOND);
        }
        int was = real.lying(question, side);
        real.lay(question, side, v);
        return was;
    }

    public int basin(int question, int what) {
        if (!isQuestion(question) || !isWithin(what, 0, 2)) {
            return finding(BEYOND);
        }
        return real.tell(question, what);
    }

    public int bribe(int v) {
        if (!isSide(v)) {
            return finding(BEYOND);
        }
        int was = real.bribed;
        real.bribed = v;
        return was;
    }

    public int held(int set) {
        if (!isSet(set)) {
            return finding(BEYOND);
        }
        int was = real.holds;
        real.holds = set;
        return was;
    }

    public int now(int what) {
        switch (what) {
            case 0:
                return real.day;
            case 1:
                return real.questionOfDay();
            case 2:
                return real.holds;
            case 3:
                return real.bribed;
            case 4:
                return real.thoseForLeft();
            case 5:
                return real.allPence();
            case 6:
                return real.allLying(LEFT) + real.allLying(RIGHT);
            default:
                return finding(BEYOND);
        }
    }

    // ---- people

    public int person(int kind) {
        if (!isKind(kind)) {
            return finding(BEYOND);
        }
        if (real.isFull()) {
            return finding(FULL);
        }
        return real.add(kind);
    }

    public int of(int person, int what) {
        if (!isPerson(person)) {
            return finding(BEYOND);
        }
        switch (what) {
            case 0:
                return real.kinds[person];
            case 1:
                return real.leans[person];
            case 2:
                return real.pence[person];
            case 3:
                return real.away[person];
            case 4:
                return real.throwsOf(person);
            case 5:
                return Kinds.earns(real.kinds[person]);
            default:
                return finding(BEYOND);
        }
    }

    public int acts(int person, int question, int what) {
        if (!isPerson(person) || !isQuestion(question) || !isWithin(what, 0, 1)) {
            return finding(BEYOND);
        }
        return what == 0 ? real.sideOf(person, question) : real.divesOf(person, question);
    }

    public int set(int person, int what, int v) {
        if (!isPerson(person)) {
            return finding(BEYOND);
        }
        if (what == 1 && isSet(v)) {
            return change(real.leans, person, v);
        }
        if (what == 2 && isPence(v)) {
            return change(real.pence, person, v);
        }
        if (what == 3 && isWithin(v, 0, 1)) {
            return change(real.away, person, v);
        }
        return finding(BEYOND);
    }

    public int turn(int person, int kind) {
        if (!isPerson(person) || !isKind(kind)) {
            return finding(BEYOND);
        }
        return change(real.kinds, person, kind);
    }

    public int as(int person, int kind) {
        if (!isPerson(person) || !isKind(kind)) {
            return finding(BEYOND);
        }
        if (!Kinds.isUnder(real.kinds[person], kind)) {
            return finding(KIND);
        }
        return real.pence[person];
    }

    // ---- days

    public int days(int n) {
        if (!isWithin(n, 1, 100)) {
            return finding(BEYOND);
        }
        if (real.day + n > LAST_DAY) {
            return finding(STATE);
        }
        real.goDays(n);
        return real.holds;
    }

    public int on(int person, int n) {
        if (!isPerson(person) || !isWithin(n, 0, FARTHEST)) {
            return finding(BEYOND);
        }
        tryDays(n);
        return trial.pence[person];
    }

    public int then(int question, int n, int what) {
        if (!isQuestion(question) || !isWithin(n, 0, FARTHEST) || !isWithin(what, 0, 2)) {
            return finding(BEYOND);
        }
        tryDays(n);
        return trial.tell(question, what);
    }

    public int flips(int question) {
        if (!isQuestion(question)) {
            return finding(BEYOND);
        }
        int was = real.tell(question, 2);
        trial.become(real);
        for (int n = 1; n <= FARTHEST; n++) {
            trial.goDay();
            if (trial.tell(question, 2) != was) {
                return n;
            }
        }
        return finding(NONE);
    }

    public int rich(int person, int v) {
        if (!isPerson(person) || !isPence(v)) {
            return finding(BEYOND);
        }
        trial.become(real);
        for (int n = 0; n <= FARTHEST; n++) {
            if (trial.pence[person] >= v) {
                return n;
            }
            trial.goDay();
        }
        return finding(NONE);
    }

    // ---- what is best

    public int kind(int person, int n) {
        if (!isPerson(person) || !isWithin(n, 1, 60)) {
            return finding(BEYOND);
        }
        int best = 0;
        int most = -1;
        for (int k = 0; k < KINDS; k++) {
            trial.become(real);
            trial.kinds[person] = k;
            trial.goDays(n);
            if (trial.pence[person] > most) {
                most = trial.pence[person];
                best = k;
            }
        }
        return best;
    }

    public int lean(int person, int n) {
        if (!isPerson(person) || !isWithin(n, 1, 40)) {
            return finding(BEYOND);
        }
        int best = 0;
        int most = -1;
        for (int set = 0; set <= ALL_QUESTIONS; set++) {
            trial.become(real);
            trial.leans[person] = set;
            trial.goDays(n);
            int unlike = Integer.bitCount(trial.holds ^ real.holds);
            if (unlike > most) {
                most = unlike;
                best = set;
            }
        }
        return best;
    }

    public int buys(int person, int question, int n) {
        if (!isPerson(person) || !isQuestion(question) || !isWithin(n, 1, 60)) {
            return finding(BEYOND);
        }
        int was = real.tell(question, 2);
        for (int v = 0; v <= 1000; v += 10) {
            trial.become(real);
            trial.pence[person] = v;
            trial.goDays(n);
            if (trial.tell(question, 2) != was) {
                return v;
            }
        }
        return finding(NONE);
    }

    public int swing(int n) {
        if (!isWithin(n, 1, 60)) {
            return finding(BEYOND);
        }
        tryDays(n);
        int wouldHold = trial.holds;
        int best = -1;
        int most = 0;
        for (int who = 0; who < real.people; who++) {
            if (real.away[who] == 0) {
                trial.become(real);
                trial.away[who] = 1;
                trial.goDays(n);
                int unlike = Integer.bitCount(trial.holds ^ wouldHold);
                if (unlike > most) {
                    most = unlike;
                    best = who;
                }
            }
        }
        return best < 0 ? finding(NONE) : best;
    }

    public int pays(int n) {
        if (!isWithin(n, 1, 60)) {
            return finding(BEYOND);
        }
        return heldIfBribed(RIGHT, n) > heldIfBribed(LEFT, n) ? RIGHT : LEFT;
    }

    public int richest(int n) {
        if (!isWithin(n, 0, FARTHEST)) {
            return finding(BEYOND);
        }
        if (real.people == 0) {
            return finding(NONE);
        }
        tryDays(n);
        int best = 0;
        for (int who = 1; who < trial.people; who++) {
            if (trial.pence[who] > trial.pence[best]) {
                best = who;
            }
        }
        return best;
    }

    // ---- the text

    public int feed(int bytes, int n) {
        if (!isWithin(n, 1, 4)) {
            return finding(BEYOND);
        }
        if (!tape.hasRoom(n)) {
            return finding(FULL);
        }
        for (int i = n - 1; i >= 0; i--) {
            tape.add((byte) (bytes >> (8 * i)));
        }
        return tape.length;
    }

    public int wipe() {
        int was = tape.length;
        tape.length = 0;
        return was;
    }

    public int town() {
        trial.become(real);
        int answer = reader.items();
        // Only a whole text comes to what there is; one with a fault has changed the trial alone.
        if (answer > 0) {
            real.become(trial);
        }
        tape.length = 0;
        return answer;
    }

    // ---- sheets

    public int sheet(int s, int bits, int n) {
        if (!isSheet(s) || !Sheets.areBits(bits)) {
            return finding(BEYOND);
        }
        if (n < 0) {
            return finding(SIZE);
        }
        if (n > Sheets.MOST) {
            return finding(BEYOND);
        }
        sheets.make(s, bits, n);
        return sheets.sizes[s];
    }

    public long write(int s, int i, long v) {
        if (!isSheet(s)) {
            return finding(BEYOND);
        }
        if (sheets.isMissing(s)) {
            return finding(MISSING);
        }
        if (!isWithin(i, 0, sheets.sizes[s] - 1)) {
            return finding(BEYOND);
        }
        long was = sheets.numbers[s][i];
        sheets.put(s, i, v);
        return was;
    }

    public int copy(int s, int from, int t, int to, int n) {
        if (!isSheet(s) || !isSheet(t)) {
            return finding(BEYOND);
        }
        if (sheets.isMissing(s) || sheets.isMissing(t)) {
            return finding(MISSING);
        }
        if (sheets.bits[s] != sheets.bits[t]) {
            return finding(KIND);
        }
        if (!sheets.hasPart(s, from, n) || !sheets.hasPart(t, to, n)) {
            return finding(BEYOND);
        }
        System.arraycopy(sheets.numbers[s], from, sheets.numbers[t], to, n);
        return n;
    }

    public int lays(int s) {
        if (!isSheet(s)) {
            return finding(BEYOND);
        }
        if (sheets.isMissing(s)) {
            return finding(MISSING);
        }
        int came = 0;
        int most = Math.min(sheets.sizes[s], real.people);
        for (int who = 0; who < most; who++) {
            long v = sheets.numbers[s][who];
            if (v >= 0 && v <= MOST_PENCE) {
                real.pence[who] = (int) v;
                came++;
            }
        }
        return came;
    }

    public int book(int s, int person) {
        if (!isSheet(s)) {
            return finding(BEYOND);
        }
        if (sheets.isMissing(s)) {
            return finding(MISSING);
        }
        if (!isPerson(person)) {
            return finding(BEYOND);
        }
        trial.become(real);
        for (int n = 0; n < sheets.sizes[s]; n++) {
            sheets.put(s, n, trial.pence[person]);
            trial.goDay();
        }
        return sheets.sizes[s];
    }

    public int read(int s, int person, int other) {
        if (!isSheet(s)) {
            return finding(BEYOND);
        }
        if (sheets.isMissing(s)) {
            return finding(MISSING);
        }
        if (!isPerson(person) || !isPerson(other) || person == other) {
            return finding(BEYOND);
        }
        int pairs = 0;
        for (int k = 0; k < KINDS; k++) {
            for (int j = 0; j < KINDS; j++) {
                trial.become(real);
                trial.kinds[person] = k;
                trial.kinds[other] = j;
                if (trialGoesAsBooked(s, person)) {
                    pairs++;
                }
            }
        }
        return pairs;
    }

    // ---- images

    public int image() {
        kept.become(real);
        keeps = true;
        return 1;
    }

    public int undo() {
        if (!keeps) {
            return finding(NONE);
        }
        real.become(kept);
        return real.people;
    }

    public int tear() {
        int was = keeps ? 1 : 0;
        keeps = false;
        return was;
    }

    public int count(int what) {
        switch (what) {
            case 0:
                return real.people;
            case 1:
                return tape.length;
            case 2:
                return real.allLying(LEFT);
            case 3:
                return real.allLying(RIGHT);
            default:
                return finding(BEYOND);
        }
    }

    public int status(int which) {
        if (which == -1) {
            int all = 0;
            for (int i = 0; i < FINDINGS; i++) {
                all += findings[i];
            }
            return all;
        }
        if (!isWithin(which, 0, FINDINGS - 1)) {
            return finding(BEYOND);
        }
        return findings[which];
    }

    // ---- what the calls share

    private int finding(int which) {
        if (isWithin(which, 0, FINDINGS - 1)) {
            findings[which]++;
        }
        return FINDINGS_ABOVE - which;
    }

    /** The caller has asked isPerson(). */
    private static int change(int[] row, int person, int v) {
        int was = row[person];
        row[person] = v;
        return was;
    }

    private void tryDays(int n) {
        trial.become(real);
        trial.goDays(n);
    }

    private int heldIfBribed(int side, int n) {
        trial.become(real);
        trial.bribed = side;
        trial.goDays(n);
        return Integer.bitCount(trial.holds);
    }

    private boolean trialGoesAsBooked(int s, int person) {
        for (int n = 0; n < sheets.sizes[s]; n++) {
            if (sheets.numbers[s][n] != trial.pence[person]) {
                return false;
            }
            trial.goDay();
        }
        return true;
    }

    private boolean isPerson(int person) {
        return isWithin(person, 0, real.people - 1);
    }

    private static boolean isQuestion(int question) {
        return isWithin(question, 0, QUESTIONS - 1);
    }

    private static boolean isSide(int side) {
        return isWithin(side, LEFT, RIGHT);
    }

    private static boolean isKind(int kind) {
        return isWithin(kind, 0, KINDS - 1);
    }

    private static boolean isSet(int set) {
        return isWithin(set, 0, ALL_QUESTIONS);
    }

    private static boolean isPence(int v) {
        return isWithin(v, 0, MOST_PENCE);
    }

    private static boolean isSheet(int s) {
        return isWithin(s, 0, Sheets.SHEETS - 1);
    }

    private static boolean isWithin(int v, int least, int most) {
        return v >= least && v <= most;
    }

    /** What one does by its kind alone; what hangs on the rest of the town stands in Town. */
    private static final class Kinds {
        private static final int[] ABOVE = {-1, THROWER, THROWER, THROWER, LADY, BOY};
        private static final int[] EARNS = {2, 2 + 1, 0, 2 + 2, 2 + 1 - 3, 0};

        static boolean isUnder(int kind, int other) {
            int k = kind;
            for (int step = 0; step < KINDS && isKind(k); step++) {
                if (k == other) {
                    return true;
                }
                k = ABOVE[k];
            }
            return false;
        }

        static int earns(int kind) {
            return isKind(kind) ? EARNS[kind] : 0;
        }

        static int throwsWith(int kind, int pence) {
            return Math.min(wouldThrow(kind, pence), pence);
        }

        private static int wouldThrow(int kind, int pence) {
            switch (kind) {
                case LADY:
                    return 1 + pence / 20;
                case BOY:
                case DIVER:
                    return 0;
                case STRANGER:
                    return 3;
                case AGENT:
                    return 2 * (1 + pence / 20);
                default:
                    return 1;
            }
        }

        static int dives(int kind, int l, int r) {
            switch (kind) {
                case BOY:
                    return Math.min(2, Math.max(l, r));
                case DIVER:
                    return Math.min(2 + (l + r) / 10, Math.max(l, r));
                default:
                    return 0;
            }
        }
    }

    /** All that section 1 of the document tells, but for the tape. */
    private static final class Town {
        int day = 0;
        int holds = 0;
        int bribed = LEFT;
        int people = 0;
        final int[] left = new int[QUESTIONS];
        final int[] right = new int[QUESTIONS];
        final int[] kinds = new int[MOST_PEOPLE];
        final int[] leans = new int[MOST_PEOPLE];
        final int[] pence = new int[MOST_PEOPLE];
        final int[] away = new int[MOST_PEOPLE];

        void become(Town other) {
            day = other.day;
            holds = other.holds;
            bribed = other.bribed;
            people = other.people;
            System.arraycopy(other.left, 0, left, 0, QUESTIONS);
            System.arraycopy(other.right, 0, right, 0, QUESTIONS);
            System.arraycopy(other.kinds, 0, kinds, 0, MOST_PEOPLE);
            System.arraycopy(other.leans, 0, leans, 0, MOST_PEOPLE);
            System.arraycopy(other.pence, 0, pence, 0, MOST_PEOPLE);
            System.arraycopy(other.away, 0, away, 0, MOST_PEOPLE);
        }

        boolean isFull() {
            return people >= MOST_PEOPLE;
        }

        /** The caller has asked isFull(). */
        int add(int kind) {
            int who = people;
            kinds[who] = kind;
            leans[who] = 0;
            pence[who] = FIRST_PENCE;
            away[who] = 0;
            people++;
            return who;
        }

        int questionOfDay() {
            return day % QUESTIONS;
        }

        int lying(int question, int side) {
            return side == LEFT ? left[question] : right[question];
        }

        void lay(int question, int side, int v) {
            if (side == LEFT) {
                left[question] = v;
            } else {
                right[question] = v;
            }
        }

        int tell(int question, int what) {
            return what == 2 ? holds >> question & 1 : lying(question, what);
        }

        int allLying(int side) {
            int all = 0;
            for (int question = 0; question < QUESTIONS; question++) {
                all += lying(question, side);
            }
            return all;
        }

        int allPence() {
            int all = 0;
            for (int who = 0; who < people; who++) {
                all += pence[who];
            }
            return all;
        }

        int thoseForLeft() {
            int set = 0;
            for (int who = 0; who < people; who++) {
                if (away[who] == 0 && sideOf(who, questionOfDay()) == LEFT) {
                    set |= 1 << who;
                }
            }
            return set;
        }

        int sideOf(int who, int question) {
            switch (kinds[who]) {
                case LADY:
                    return ladySide(who, question);
                case BOY:
                case DIVER:
                    return left[question] <= right[question] ? LEFT : RIGHT;
                case STRANGER:
                    return day % 2;
                case AGENT:
                    return bribed;
                default:
                    return throwerSide(who, question);
            }
        }

        private int throwerSide(int who, int question) {
            return (leans[who] >> question & 1) == 1 ? LEFT : RIGHT;
        }

        private int ladySide(int who, int question) {
            int hers = throwerSide(who, question);
            int others = RIGHT - hers;
            return lying(question, hers) - lying(question, others) > 20 ? others : hers;
        }

        int throwsOf(int who) {
            return Kinds.throwsWith(kinds[who], pence[who]);
        }

        int divesOf(int who, int question) {
            return Kinds.dives(kinds[who], left[question], right[question]);
        }

        void goDays(int n) {
            for (int i = 0; i < n; i++) {
                goDay();
            }
        }

        void goDay() {
            int question = questionOfDay();
            for (int who = 0; who < people; who++) {
                if (away[who] == 0) {
                    visit(who, question);
                }
            }
            net(question);
            day++;
        }

        private void visit(int who, int question) {
            pence[who] = Math.min(pence[who] + Kinds.earns(kinds[who]), MOST_PENCE);
            // A side or a purse that is full takes no more, but what was thrown or taken out is gone all the same.
            int thrown = throwsOf(who);
            int side = sideOf(who, question);
            lay(question, side, Math.min(lying(question, side) + thrown, MOST_PENCE));
            pence[who] -= thrown;
            int taken = divesOf(who, question);
            int from = left[question] >= right[question] ? LEFT : RIGHT;
            lay(question, from, lying(question, from) - taken);
            pence[who] = Math.min(pence[who] + taken, MOST_PENCE);
        }

        private void net(int question) {
            if (left[question] > right[question]) {
                holds |= 1 << question;
            } else if (left[question] < right[question]) {
                holds &= ~(1 << question);
            }
            left[question] /= 2;
            right[question] /= 2;
        }
    }

    private static final class Tape {
        static final int MOST = 120;

        final byte[] bytes = new byte[MOST];
        int length = 0;

        boolean hasRoom(int n) {
            return length + n <= MOST;
        }

        void add(byte b) {
            if (length < MOST) {
                bytes[length] = b;
                length++;
            }
        }
    }

    /** Reads the text of a town from the tape, token by token, into the trial town. */
    private static final class TextReader {
        private static final int END = 0;
        private static final int WORD = 1;
        private static final int NUMBER = 2;
        private static final int SIGN = 3;
        private static final int OTHER = 4;

        private final Tape tape;
        private final Town target;
        // The token that is looked at: its first byte, the place behind it, what it is, and a number's value.
        private int start;
        private int end;
        private int token;
        private int value;

        TextReader(Tape tape, Town target) {
            this.tape = tape;
            this.target = target;
        }

        /** How many items were read, or -1 less the place of the fault. */
        int items() {
            end = 0;
            // An item is a byte at least, so there are never more items than bytes.
            for (int items = 1; items <= Tape.MOST; items++) {
                next();
                if (!readItem()) {
                    break;
                }
                if (token == END) {
                    return items;
                }
                if (token != SIGN) {
                    break;
                }
            }
            return -1 - start;
        }

        private boolean readItem() {
            int kind = kindNamed();
            if (isKind(kind)) {
                return readPerson(kind);
            }
            if (isWord("left")) {
                return readLying(LEFT);
            }
            if (isWord("right")) {
                return readLying(RIGHT);
            }
            if (isWord("bribe")) {
                return readBribe();
            }
            return isWord("away") && readAway();
        }

        private int kindNamed() {
            if (isWord("thrower")) {
                return THROWER;
            }
            if (isWord("lady")) {
                return LADY;
            }
            if (isWord("boy")) {
                return BOY;
            }
            if (isWord("stranger")) {
                return STRANGER;
            }
            if (isWord("agent")) {
                return AGENT;
            }
            return isWord("diver") ? DIVER : -1;
        }

        private boolean readPerson(int kind) {
            if (target.isFull()) {
                return false;
            }
            int who = target.add(kind);
            next();
            if (isWord("leans")) {
                next();
                if (!isNumber(ALL_QUESTIONS)) {
                    return false;
                }
                target.leans[who] = value;
                next();
            }
            if (isWord("pence")) {
                next();
                if (!isNumber(MOST_PENCE)) {
                    return false;
                }
                target.pence[who] = value;
                next();
            }
            return true;
        }

        private boolean readLying(int side) {
            next();
            if (!isNumber(QUESTIONS - 1)) {
                return false;
            }
            int question = value;
            next();
            if (!isNumber(MOST_PENCE)) {
                return false;
            }
            target.lay(question, side, value);
            next();
            return true;
        }

        private boolean readBribe() {
            next();
            if (isWord("left")) {
                target.bribed = LEFT;
            } else if (isWord("right")) {
                target.bribed = RIGHT;
            } else {
                return false;
            }
            next();
            return true;
        }

        private boolean readAway() {
            next();
            if (!isNumber(target.people - 1)) {
                return false;
            }
            target.away[value] = 1;
            next();
            return true;
        }

        private boolean isNumber(int most) {
            return token == NUMBER && value <= most;
        }

        private boolean isWord(String word) {
            if (token != WORD || end - start != word.length()) {
                return false;
            }
            for (int i = 0; i < word.length(); i++) {
                if (byteAt(start + i) != word.charAt(i)) {
                    return false;
                }
            }
            return true;
        }

        private void next() {
            while (end < tape.length && byteAt(end) == ' ') {
                end++;
            }
            start = end;
            if (start >= tape.length) {
                token = END;
            } else if (isLetter(byteAt(start))) {
                nextWord();
            } else if (isDigit(byteAt(start))) {
                nextNumber();
            } else {
                token = byteAt(start) == ';' ? SIGN : OTHER;
                end++;
            }
        }

        private void nextWord() {
            token = WORD;
            while (end < tape.length && isLetter(byteAt(end))) {
                end++;
            }
        }

        private void nextNumber() {
            token = NUMBER;
            value = 0;
            while (end < tape.length && isDigit(byteAt(end))) {
                // What is too large stays too large, however many digits follow.
                value = Math.min(value * 10 + byteAt(end) - '0', MOST_PENCE + 1);
                end++;
            }
        }

        private int byteAt(int place) {
            return place >= 0 && place < Tape.MOST ? tape.bytes[place] : 0;
        }

        private static boolean isLetter(int b) {
            return b >= 'a' && b <= 'z';
        }

        private static boolean isDigit(int b) {
            return b >= '0' && b <= '9';
        }
    }

    /** The sheets; one of 0 bits is missing. Rows are made once, as long as a sheet may be, and used again. */
    private static final class Sheets {
        static final int SHEETS = 4;
        static final int MOST = 40;

        final long[][] numbers = new long[SHEETS][MOST];
        final int[] bits = new int[SHEETS];
        final int[] sizes = new int[SHEETS];

        static boolean areBits(int bits) {
            return bits == 0 || bits == 8 || bits == 16 || bits == 64;
        }

        boolean isMissing(int s) {
            return bits[s] == 0;
        }

        void make(int s, int width, int n) {
            bits[s] = width;
            sizes[s] = width == 0 ? 0 : n;
            for (int i = 0; i < MOST; i++) {
                numbers[s][i] = 0;
            }
        }

        boolean hasPart(int s, int from, int n) {
            return from >= 0 && n >= 0 && from <= sizes[s] && n <= sizes[s] - from;
        }

        /** Numbers have a sign, as Java's of as many bits do. */
        void put(int s, int i, long v) {
            if (bits[s] == 8) {
                numbers[s][i] = (byte) v;
            } else if (bits[s] == 16) {
                numbers[s][i] = (short) v;
            } else {
                numbers[s][i] = v;
            }
        }
    }
}
