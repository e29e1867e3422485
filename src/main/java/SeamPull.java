import java.util.Arrays;

/**
 * A row of plate cells joined by seams that pull. Everything an object ever needs is made in its constructor
 * and used again, so that no call makes anything.
 */
public final class SeamPull {
    public static final int NONE = -1000000, BAD = -1000001, STATE = -1000002, FULL = -1000003;

    private static final int FOUND = -1000010, FAULTED = -1000100;
    private static final int NULL = 1, PLACE = 2, KIND = 3, SIZE = 4, STORE = 5;

    private static final int SHEETS = 8, LANES = 3, MOST_ITEMS = 40, MOST_BYTES = 500, WORD_BYTES = 8;
    private static final int LEAST_CELLS = 4, MOST_CELLS = 12, MOST_SEAMS = 6, MOST_ACTS = 40, MOST_BEFORES = 10;
    private static final int MOST_STRENGTH = 20, MOST_MINUTES = 30, MOST_BEND = 40;
    private static final int MOST_SPOTS = 3, MOST_SIZE_LEFT = 40, MOST_COLD = 60;
    private static final int MOST_WIRE = 9999, MOST_STEEL = 9;
    private static final int NO_SEAM = -1;

    private static final int TACK = 0, ON = 1, BACK = 2, SKIP = 3, SECOND = 4, TURNED = 5, FLAME = 6;
    private static final int WAIT = 7, CLAMP = 8, FREE = 9;

    private static final int[] BY_NUMBERS = {0, 1, 2, 3, 4, 5};

    private final Shelf shelf;
    private final Tape tape;
    private final Reader reader;
    private final int[] setTo;
    private final int[] order;
    private final int[] row;
    private final Panel latest;
    private final Panel trial;
    private final Search search;
    private final Beforehand ahead;
    private final Asks asks;
    private Plan plan;
    private Plan draft;
    private boolean ran;
    private int latestFault;
    private int latestFinding;

    public SeamPull() {
        shelf = new Shelf();
        tape = new Tape();
        reader = new Reader(tape);
        setTo = new int[MOST_CELLS];
        order = new int[MOST_SEAMS];
        row = new int[MOST_CELLS];
        latest = new Panel();
        trial = new Panel();
        search = new Search();
        ahead = new Beforehand();
        asks = new Asks();
        plan = new Plan();
        draft = new Plan();
        ran = false;
        latestFault = 0;
        latestFinding = 0;
    }

    // ---- sheets

    public int sheet(int sheet, int lane, int n) {
        if (!shelf.hasNumber(sheet) || lane < 0 || lane >= LANES || n > MOST_ITEMS) {
            return BAD;
        }
        if (n < 0) {
            return found(SIZE);
        }
        shelf.lay(sheet, lane, n);
        return fine(n);
    }

    public int set(int sheet, int i, int v) {
        if (!shelf.hasNumber(sheet)) {
            return BAD;
        }
        int finding = shelf.findingAt(sheet, i, 1);
        if (finding != 0) {
            return found(finding);
        }
        return fine(shelf.put(sheet, i, v));
    }

    public int copy(int a, int i, int b, int j, int n) {
        if (!shelf.hasNumber(a) || !shelf.hasNumber(b)) {
            return BAD;
        }
        int finding = shelf.findingBetween(a, b);
        if (finding == 0) {
            finding = shelf.findingAt(a, i, n);
        }
        if (finding == 0) {
            finding = shelf.findingAt(b, j, n);
        }
        if (finding != 0) {
            return found(finding);
        }
        shelf.carry(a, i, b, j, n);
        return fine(n);
    }

    public int drop(int sheet) {
        if (!shelf.hasNumber(sheet)) {
            return BAD;
        }
        if (shelf.isMissing(sheet)) {
            return found(NULL);
        }
        return fine(shelf.takeAway(sheet));
    }

    // ---- plans

    public int feed(long w, int n) {
        if (n < 1 || n > WORD_BYTES) {
            return BAD;
        }
        if (!tape.hasRoom(n)) {
            return FULL;
        }
        return tape.append(w, n);
    }

    public int plan() {
        int fault = reader.readInto(draft);
        int place = tape.tokenPlace();
        tape.empty();
        if (fault != 0) {
            latestFault = fault;
            return FAULTED - place;
        }
        Plan former = plan;
        plan = draft;
        draft = former;
        beginPlan();
        return plan.acts;
    }

    private void beginPlan() {
        ran = false;
        Arrays.fill(setTo, 0);
        System.arraycopy(BY_NUMBERS, 0, order, 0, MOST_SEAMS);
        latest.begin(plan.cells, setTo);
        search.forget();
        ahead.forget();
    }

    public int fault() {
        return latestFault;
    }

    public int act(int act, int what) {
        if (!plan.hasAct(act)) {
            return BAD;
        }
        switch (what) {
            case 0:
                return plan.actKind[act];
            case 1:
                return plan.actPlace[act];
            case 2:
                return plan.isStep(act) ? plan.actStrength[act] : NONE;
            case 3:
                return plan.actSeam[act];
            default:
                return BAD;
        }
    }

    public int open(int cell, int bend) {
        if (!plan.hasCell(cell) || bend < -MOST_BEND || bend > MOST_BEND) {
            return BAD;
        }
        int was = setTo[cell];
        setTo[cell] = bend;
        search.forget();
        if (!ran) {
            latest.begin(plan.cells, setTo);
        }
        return was;
    }

    public int run(int sheet, int i) {
        if (!shelf.hasNumber(sheet)) {
            return BAD;
        }
        if (plan.isNone()) {
            return STATE;
        }
        int finding = shelf.findingAt(sheet, i, plan.seams);
        if (finding != 0) {
            return found(finding);
        }
        if (!shelf.tellsOrder(sheet, i, plan.seams)) {
            return BAD;
        }
        for (int k = 0; k < plan.seams; k++) {
            order[k] = shelf.itemAt(sheet, i + k);
        }
        return fine(standByOrder());
    }

    public int runs() {
        if (plan.isNone()) {
            return STATE;
        }
        System.arraycopy(BY_NUMBERS, 0, order, 0, MOST_SEAMS);
        return standByOrder();
    }

    private int standByOrder() {
        ran = true;
        latest.go(plan, setTo, order, NO_SEAM);
        return latest.off();
    }

    public int cell(int cell, int what) {
        if (!plan.hasCell(cell)) {
            return BAD;
        }
        switch (what) {
            case 0:
                return latest.heatOf(cell);
            case 1:
                return latest.hold[cell];
            case 2:
                return latest.bend[cell];
            case 3:
                return latest.pullOf(cell);
            default:
                return BAD;
        }
    }

    public int height(int i) {
        if (plan.isNone()) {
            return STATE;
        }
        if (i < 0 || i > plan.cells) {
            return BAD;
        }
        return latest.heightAt(i);
    }

    public int minutes() {
        return latest.minutes;
    }

    public int gives(int seam) {
        if (!plan.hasSeam(seam)) {
            return BAD;
        }
        trial.go(plan, setTo, order, NO_SEAM);
        int offWith = trial.off();
        trial.go(plan, setTo, order, seam);
        return offWith - trial.off();
    }

    // ---- orders, beforehand, spots

    public int best(int i) {
        if (i < -1) {
            return BAD;
        }
        if (plan.isNone()) {
            return STATE;
        }
        search.look(plan, setTo);
        if (!search.fits) {
            return NONE;
        }
        if (i == -1) {
            return search.leastOff;
        }
        return plan.hasSeam(i) ? search.nearest[i] : NONE;
    }

    public int orders() {
        if (plan.isNone()) {
            return STATE;
        }
        return search.howManyFit(plan);
    }

    public int beforehand(int cell) {
        if (!plan.hasCell(cell)) {
            return BAD;
        }
        ahead.look(plan, trial);
        return ahead.bends[cell];
    }

    public int spots(int p, int t) {
        if (p < 1 || p > MOST_STRENGTH || t < 0 || t > MOST_SIZE_LEFT) {
            return BAD;
        }
        if (plan.isNone()) {
            return STATE;
        }
        int least = NONE;
        int fewest = MOST_SPOTS + 1;
        for (int bits = 0; bits < 1 << plan.cells; bits++) {
            int many = Integer.bitCount(bits);
            if (many < fewest && drawDown(bits, p, t)) {
                fewest = many;
                least = bits;
            }
        }
        return least;
    }

    private boolean drawDown(int bits, int p, int t) {
        System.arraycopy(latest.bend, 0, row, 0, MOST_CELLS);
        for (int c = 0; c < plan.cells; c++) {
            if ((bits >> c & 1) == 1) {
                spotAt(c, p);
            }
        }
        for (int c = 0; c < plan.cells; c++) {
            if (Math.abs(row[c]) > t) {
                return false;
            }
        }
        return true;
    }

    private void spotAt(int c, int p) {
        if (row[c] > 0) {
            row[c] = Math.max(0, row[c] - p);
        } else {
            row[c] = Math.min(0, row[c] + p);
        }
        if (c > 0) {
            row[c - 1]++;
        }
        if (c + 1 < plan.cells) {
            row[c + 1]++;
        }
    }

    public int crack(int cold) {
        if (cold < 0 || cold > MOST_COLD) {
            return BAD;
        }
        return latest.firstAbove(300 - 4 * cold);
    }

    public int warm() {
        if (plan.isNone()) {
            return STATE;
        }
        for (int cold = MOST_COLD; cold >= 0; cold--) {
            if (latest.firstAbove(300 - 4 * cold) == NONE) {
                return cold;
            }
        }
        return NONE;
    }

    public int wire(int sheet, int i, int what) {
        if (!shelf.hasNumber(sheet)) {
            return BAD;
        }
        if (plan.isNone()) {
            return STATE;
        }
        if (what < -1 || what >= plan.cells) {
            return BAD;
        }
        int finding = shelf.findingAt(sheet, i, plan.cells + 1);
        if (finding != 0) {
            return found(finding);
        }
        if (!shelf.allWithin(sheet, i, plan.cells + 1, MOST_WIRE)) {
            return BAD;
        }
        return fine(what == -1 ? steelOf(sheet, i) : wireBend(sheet, i, what));
    }

    private int wireBend(int sheet, int i, int c) {
        int here = shelf.itemAt(sheet, i + c);
        int slope = shelf.itemAt(sheet, i + c + 1) - here;
        int slopeAhead = c == 0 ? 0 : here - shelf.itemAt(sheet, i + c - 1);
        return slope - slopeAhead;
    }

    private int steelOf(int sheet, int i) {
        for (int k = 1; k <= MOST_STEEL; k++) {
            if (isSteel(sheet, i, k)) {
                return k;
            }
        }
        return NONE;
    }

    private boolean isSteel(int sheet, int i, int k) {
        for (int c = 0; c < plan.cells; c++) {
            if (wireBend(sheet, i, c) != k * latest.bend[c] / 4) {
                return false;
            }
        }
        return true;
    }

    // ---- asked

    public int kind(int act) {
        return plan.isStep(act) ? plan.stepKind(act) : BAD;
    }

    public int as(int act, int kind) {
        if (!plan.isStep(act) || !Asks.hasKind(kind)) {
            return BAD;
        }
        if (!Asks.isOfKind(plan.stepKind(act), kind)) {
            return found(KIND);
        }
        return fine(plan.actPlace[act]);
    }

    public int ask(int act, int what) {
        if (!plan.isStep(act) || (what != Asks.SIZE_ASKED && what != Asks.MARK_ASKED)) {
            return BAD;
        }
        return asks.answerOf(plan, act, what);
    }

    public int trace(int i) {
        return asks.traced(i);
    }

    public int count(int what) {
        switch (what) {
            case 0:
                return shelf.howMany();
            case 1:
                return plan.cells;
            case 2:
                return plan.seams;
            case 3:
                return plan.acts;
            case 4:
                return plan.befores;
            case 5:
                return tape.size;
            default:
                return BAD;
        }
    }

    public int status() {
        return latestFinding;
    }

    private int found(int finding) {
        latestFinding = finding;
        return FOUND - finding;
    }

    private int fine(int answer) {
        latestFinding = 0;
        return answer;
    }

    /** The sheets. All lanes lie in rows of ints: what is put is narrowed to its lane first. */
    private static final class Shelf {
        private static final int MISSING = -1;
        private final int[] lanes = new int[SHEETS];
        private final int[] sizes = new int[SHEETS];
        private final int[][] items = new int[SHEETS][MOST_ITEMS];

        Shelf() {
            Arrays.fill(sizes, MISSING);
        }

        boolean hasNumber(int sheet) {
            return sheet >= 0 && sheet < SHEETS;
        }

        boolean isMissing(int sheet) {
            return sheet < 0 || sheet >= SHEETS || sizes[sheet] == MISSING;
        }

        int howMany() {
            int many = 0;
            for (int s = 0; s < SHEETS; s++) {
                if (sizes[s] != MISSING) {
                    many++;
                }
            }
            return many;
        }

        /** NULL, PLACE, or 0 where n items from i on are there. */
        int findingAt(int sheet, int i, int n) {
            if (isMissing(sheet)) {
                return NULL;
            }
            // Taken from the size, as i + n may wrap around.
            return i < 0 || n < 0 || i > sizes[sheet] - n ? PLACE : 0;
        }

        /** NULL, STORE, or 0 where items of a may come to b. */
        int findingBetween(int a, int b) {
            if (isMissing(a) || isMissing(b)) {
                return NULL;
            }
            return lanes[a] != lanes[b] ? STORE : 0;
        }

        void lay(int sheet, int lane, int n) {
            lanes[sheet] = lane;
            sizes[sheet] = n;
            Arrays.fill(items[sheet], 0);
        }

        int takeAway(int sheet) {
            int had = sizes[sheet];
            sizes[sheet] = MISSING;
            return had;
        }

        int put(int sheet, int i, int v) {
            items[sheet][i] = narrowed(lanes[sheet], v);
            return items[sheet][i];
        }

        private static int narrowed(int lane, int v) {
            switch (lane) {
                case 0:
                    return (byte) v;
                case 1:
                    return (short) v;
                default:
                    return v;
            }
        }

        void carry(int a, int i, int b, int j, int n) {
            System.arraycopy(items[a], i, items[b], j, n);
        }

        int itemAt(int sheet, int i) {
            return findingAt(sheet, i, 1) == 0 ? items[sheet][i] : 0;
        }

        boolean tellsOrder(int sheet, int i, int seams) {
            int seen = 0;
            for (int k = 0; k < seams; k++) {
                int seam = itemAt(sheet, i + k);
                if (seam < 0 || seam >= seams || (seen >> seam & 1) == 1) {
                    return false;
                }
                seen |= 1 << seam;
            }
            return true;
        }

        boolean allWithin(int sheet, int i, int n, int most) {
            for (int k = 0; k < n; k++) {
                int item = itemAt(sheet, i + k);
                if (item < -most || item > most) {
                    return false;
                }
            }
            return true;
        }
    }

    /** The tape, and the one token of it that is looked at. */
    private static final class Tape {
        private static final int END = 0, NAME = 1, NUMBER = 2, SIGN = 3, NO_TOKEN = 4;
        private static final int PANEL_WORD = 10, SEAM_WORD = 11, BEFORE_WORD = 12, NO_ACT = -1;
        private static final int MOST_FIGURES = 2;
        private final byte[] bytes = new byte[MOST_BYTES];
        private int size = 0;
        private int start = 0;
        private int end = 0;
        private int sort = END;

        boolean hasRoom(int n) {
            return n <= MOST_BYTES - size;
        }

        int append(long w, int n) {
            for (int k = n - 1; k >= 0 && size < MOST_BYTES; k--) {
                bytes[size] = (byte) (w >> 8 * k);
                size++;
            }
            return size;
        }

        void empty() {
            size = 0;
        }

        int tokenPlace() {
            return start;
        }

        void toFirst() {
            end = 0;
            toNext();
        }

        void toNext() {
            start = end;
            while (start < size && (bytes[start] == ' ' || bytes[start] == '\n')) {
                start++;
            }
            sort = start < size ? sortOf(bytes[start]) : END;
            end = start < size ? start + 1 : start;
            while (end < size && (sort == NAME || sort == NUMBER) && sortOf(bytes[end]) == sort) {
                end++;
            }
            if (sort == NUMBER && end - start > MOST_FIGURES) {
                sort = NO_TOKEN;
            }
        }

        private static int sortOf(int sign) {
            if (sign >= 'a' && sign <= 'z') {
                return NAME;
            }
            if (sign >= '0' && sign <= '9') {
                return NUMBER;
            }
            return sign == ';' ? SIGN : NO_TOKEN;
        }

        private boolean spells(String text) {
            if (text.length() != end - start) {
                return false;
            }
            for (int k = 0; k < text.length(); k++) {
                if (text.charAt(k) != bytes[start + k]) {
                    return false;
                }
            }
            return true;
        }

        /** The words of acts stand first, so that a word's number is the act's kind. */
        private static String spelling(int word) {
            switch (word) {
                case TACK: return "tack";
                case ON: return "on";
                case BACK: return "back";
                case SKIP: return "skip";
                case SECOND: return "second";
                case TURNED: return "turned";
                case FLAME: return "flame";
                case WAIT: return "wait";
                case CLAMP: return "clamp";
                case FREE: return "free";
                case PANEL_WORD: return "panel";
                case SEAM_WORD: return "seam";
                case BEFORE_WORD: return "before";
                default: return "";
            }
        }

        boolean atEnd() {
            return sort == END;
        }

        boolean atWord(int word) {
            return sort == NAME && spells(spelling(word));
        }

        /** The kind of the act that the word here begins, or NO_ACT. */
        int actHere() {
            for (int kind = TACK; kind <= FREE; kind++) {
                if (atWord(kind)) {
                    return kind;
                }
            }
            return NO_ACT;
        }

        boolean atNumber() {
            return sort == NUMBER;
        }

        int numberHere() {
            int number = 0;
            for (int i = start; i < end && sort == NUMBER; i++) {
                number = number * 10 + bytes[i] - '0';
            }
            return number;
        }

        boolean atSign() {
            return sort == SIGN;
        }
    }

    /**
     * Reads a text into a plan. Each part answers its fault, 0 for none; with a fault the tape is left at the
     * token that has it.
     */
    private static final class Reader {
        private static final int MISPLACED = 1, NOT_AS_TOLD = 2, NO_ROOM = 3;
        private final Tape tape;
        private int taken = 0;

        Reader(Tape tape) {
            this.tape = tape;
        }

        int readInto(Plan into) {
            into.clear();
            tape.toFirst();
            int fault = takePanel(into);
            for (int k = 0; k <= MOST_SEAMS && fault == 0 && tape.atWord(Tape.SEAM_WORD); k++) {
                fault = takeSeam(into);
            }
            for (int k = 0; k <= MOST_BEFORES && fault == 0 && tape.atWord(Tape.BEFORE_WORD); k++) {
                fault = takeBefore(into);
            }
            return fault == 0 && !tape.atEnd() ? MISPLACED : fault;
        }

        private int takePanel(Plan into) {
            if (!tape.atWord(Tape.PANEL_WORD)) {
                return MISPLACED;
            }
            tape.toNext();
            int fault = takeNumber(LEAST_CELLS, MOST_CELLS);
            if (fault != 0) {
                return fault;
            }
            into.cells = taken;
            return takeSign();
        }

        private int takeSeam(Plan into) {
            if (into.seams >= MOST_SEAMS) {
                return NO_ROOM;
            }
            tape.toNext();
            int fault = 0;
            int kind = tape.actHere();
            for (int k = 0; k <= MOST_ACTS && fault == 0 && kind != Tape.NO_ACT; k++) {
                fault = takeAct(into, kind);
                kind = tape.actHere();
            }
            into.endSeam();
            return fault == 0 ? takeSign() : fault;
        }

        private int takeAct(Plan into, int kind) {
            if (into.acts >= MOST_ACTS) {
                return NO_ROOM;
            }
            tape.toNext();
            int fault = kind == WAIT ? takeNumber(1, MOST_MINUTES) : takeNumber(0, into.cells - 1);
            int place = taken;
            int strength = 0;
            if (fault == 0 && kind <= FLAME) {
                fault = takeNumber(1, MOST_STRENGTH);
                strength = taken;
            }
            if (fault == 0) {
                into.addAct(kind, place, strength);
            }
            return fault;
        }

        private int takeBefore(Plan into) {
            if (into.befores >= MOST_BEFORES) {
                return NO_ROOM;
            }
            tape.toNext();
            int fault = takeNumber(0, into.seams - 1);
            if (fault != 0) {
                return fault;
            }
            int former = taken;
            if (tape.atNumber() && tape.numberHere() == former) {
                return NOT_AS_TOLD;
            }
            fault = takeNumber(0, into.seams - 1);
            if (fault != 0) {
                return fault;
            }
            into.addBefore(former, taken);
            return takeSign();
        }

        private int takeNumber(int least, int most) {
            if (!tape.atNumber()) {
                return MISPLACED;
            }
            taken = tape.numberHere();
            if (taken < least || taken > most) {
                return NOT_AS_TOLD;
            }
            tape.toNext();
            return 0;
        }

        private int takeSign() {
            if (!tape.atSign()) {
                return MISPLACED;
            }
            tape.toNext();
            return 0;
        }
    }

    /** What a text tells. A plan without cells is none. */
    private static final class Plan {
        private int cells = 0;
        private int seams = 0;
        private int acts = 0;
        private int befores = 0;
        private final int[] actKind = new int[MOST_ACTS];
        private final int[] actPlace = new int[MOST_ACTS];
        private final int[] actStrength = new int[MOST_ACTS];
        private final int[] actSeam = new int[MOST_ACTS];
        private final int[] seamEnd = new int[MOST_SEAMS];
        private final int[] needs = new int[MOST_SEAMS];

        void clear() {
            cells = 0;
            seams = 0;
            acts = 0;
            befores = 0;
            Arrays.fill(needs, 0);
        }

        boolean isNone() {
            return cells == 0;
        }

        boolean hasCell(int cell) {
            return cell >= 0 && cell < cells;
        }

        boolean hasSeam(int seam) {
            return seam >= 0 && seam < seams;
        }

        boolean hasAct(int act) {
            return act >= 0 && act < acts;
        }

        boolean isStep(int act) {
            return hasAct(act) && actKind[act] <= FLAME;
        }

        /** Kind 0 is that of all steps, so the kinds told in texts stand one higher. */
        int stepKind(int act) {
            return actKind[act] + 1;
        }

        void addAct(int kind, int place, int strength) {
            if (acts < MOST_ACTS) {
                actKind[acts] = kind;
                actPlace[acts] = place;
                actStrength[acts] = strength;
                actSeam[acts] = seams;
                acts++;
            }
        }

        void endSeam() {
            if (seams < MOST_SEAMS) {
                seamEnd[seams] = acts;
                seams++;
            }
        }

        void addBefore(int former, int latter) {
            if (hasSeam(former) && hasSeam(latter)) {
                needs[latter] |= 1 << former;
                befores++;
            }
        }

        int firstAct(int seam) {
            return seam > 0 && seam < seams ? seamEnd[seam - 1] : 0;
        }

        int endOfActs(int seam) {
            return hasSeam(seam) ? seamEnd[seam] : 0;
        }

        /** Whether a seam may come next where those of the bits are in. */
        boolean mayFollow(int seam, int bits) {
            return hasSeam(seam) && (bits >> seam & 1) == 0 && (needs[seam] & ~bits) == 0;
        }
    }

    /** The cells as a run works on them. */
    private static final class Panel {
        private static final int HOT = 100;
        private final int[] heat = new int[MOST_CELLS];
        private final int[] heatTime = new int[MOST_CELLS];
        private final int[] hold = new int[MOST_CELLS];
        private final int[] bend = new int[MOST_CELLS];
        private final int[] spring = new int[MOST_CELLS];
        private final int[] shrunk = new int[MOST_CELLS];
        private int clampBits = 0;
        private int cells = 0;
        private int minutes = 0;
        private int allShrunk = 0;

        void begin(int cellCount, int[] bends) {
            cells = Math.min(cellCount, MOST_CELLS);
            minutes = 0;
            allShrunk = 0;
            clampBits = 0;
            Arrays.fill(heat, 0);
            Arrays.fill(heatTime, 0);
            Arrays.fill(hold, 0);
            Arrays.fill(spring, 0);
            Arrays.fill(shrunk, 0);
            System.arraycopy(bends, 0, bend, 0, MOST_CELLS);
        }

        void becomeAs(Panel other) {
            cells = other.cells;
            minutes = other.minutes;
            allShrunk = other.allShrunk;
            clampBits = other.clampBits;
            System.arraycopy(other.heat, 0, heat, 0, MOST_CELLS);
            System.arraycopy(other.heatTime, 0, heatTime, 0, MOST_CELLS);
            System.arraycopy(other.hold, 0, hold, 0, MOST_CELLS);
            System.arraycopy(other.bend, 0, bend, 0, MOST_CELLS);
            System.arraycopy(other.spring, 0, spring, 0, MOST_CELLS);
            System.arraycopy(other.shrunk, 0, shrunk, 0, MOST_CELLS);
        }

        /** A whole run in an order, without the acts of one seam (NO_SEAM: with all). */
        void go(Plan plan, int[] bends, int[] seamOrder, int without) {
            begin(plan.cells, bends);
            for (int k = 0; k < plan.seams && k < seamOrder.length; k++) {
                if (seamOrder[k] != without) {
                    doSeam(plan, seamOrder[k]);
                }
            }
            freeAll();
        }

        void doSeam(Plan plan, int seam) {
            for (int a = plan.firstAct(seam); a < plan.endOfActs(seam); a++) {
                int place = plan.actPlace[a];
                switch (plan.actKind[a]) {
                    case WAIT:
                        minutes += place;
                        break;
                    case CLAMP:
                        clampBits |= 1 << place;
                        break;
                    case FREE:
                        freeOne(place);
                        break;
                    default:
                        doStep(plan.actKind[a], place, plan.actStrength[a]);
                        break;
                }
            }
        }

        private void doStep(int kind, int c, int p) {
            if (!has(c)) {
                return;
            }
            cool(c);
            int e = effectOf(shrinkageOf(kind, c, p), c);
            if (isClamped(c)) {
                spring[c] += e;
            } else {
                bend[c] += e;
            }
            shrunk[c] += e;
            allShrunk += e;
            heat[c] += heatOfStep(kind, p);
            hold[c] += holdOfStep(kind);
            minutes++;
        }

        private int effectOf(int shrinkage, int c) {
            int stiffness = 8 + hold[c];
            int e = stiffness > 0 ? 8 * shrinkage / stiffness : 0;
            return heat[c] >= HOT ? e / 2 : e;
        }

        private int shrinkageOf(int kind, int c, int p) {
            int back = holds(c + 1) ? p - 1 : p;
            switch (kind) {
                case TACK:
                    return 1;
                case BACK:
                    return back;
                case SKIP:
                    return holds(c - 1) || holds(c + 1) ? back : back - 1;
                case SECOND:
                    return holds(c) ? p / 2 : p;
                case TURNED:
                    return -p;
                case FLAME:
                    return bend[c] > 0 ? -p : p;
                default:
                    return p;
            }
        }

        private static int heatOfStep(int kind, int p) {
            switch (kind) {
                case TACK:
                    return p;
                case FLAME:
                    return 6 * p;
                default:
                    return 4 * p;
            }
        }

        private static int holdOfStep(int kind) {
            switch (kind) {
                case TACK:
                case SECOND:
                    return 1;
                case FLAME:
                    return 0;
                default:
                    return 2;
            }
        }

        private void freeOne(int c) {
            if (has(c) && isClamped(c)) {
                clampBits &= ~(1 << c);
                bend[c] += spring[c] / 2;
                spring[c] = 0;
            }
        }

        void freeAll() {
            for (int c = 0; c < cells; c++) {
                freeOne(c);
            }
        }

        private boolean has(int c) {
            return c >= 0 && c < cells;
        }

        private boolean holds(int c) {
            return c >= 0 && c < cells && hold[c] > 0;
        }

        private boolean isClamped(int c) {
            return (clampBits >> c & 1) == 1;
        }

        /** Heat is cooled only when it is looked at: long waits in many orders would cost too much otherwise. */
        private void cool(int c) {
            for (int m = heatTime[c]; m < minutes && heat[c] > 0; m++) {
                heat[c] = heat[c] * 3 / 4;
            }
            heatTime[c] = minutes;
        }

        int heatOf(int c) {
            if (!has(c)) {
                return 0;
            }
            cool(c);
            return heat[c];
        }

        /** A cell's own shrinking counts (cells - 1) times, that of each other once less: together this. */
        int pullOf(int c) {
            return has(c) ? cells * shrunk[c] - allShrunk : 0;
        }

        int firstAbove(int most) {
            for (int c = 0; c < cells; c++) {
                if (pullOf(c) > most) {
                    return c;
                }
            }
            return NONE;
        }

        int heightAt(int i) {
            int slope = 0;
            int height = 0;
            for (int c = 0; c < i && c < cells; c++) {
                slope += bend[c];
                height += slope;
            }
            return height;
        }

        int off() {
            int last = heightAt(cells);
            int slope = 0;
            int height = 0;
            int farthest = 0;
            for (int c = 0; c < cells; c++) {
                slope += bend[c];
                height += slope;
                farthest = Math.max(farthest, Math.abs(cells * height - (c + 1) * last));
            }
            return cells > 0 ? farthest / cells : 0;
        }
    }

    /** Of all orders that fit the nearest one. What was found is kept until the plan or a set bend changes. */
    private static final class Search {
        private final Panel[] panels = new Panel[MOST_SEAMS + 1];
        private final int[] tried = new int[MOST_SEAMS];
        private final int[] nearest = new int[MOST_SEAMS];
        private final int[] ways = new int[1 << MOST_SEAMS];
        private boolean known = false;
        private boolean fits = false;
        private int leastOff = 0;

        Search() {
            for (int depth = 0; depth <= MOST_SEAMS; depth++) {
                panels[depth] = new Panel();
            }
        }

        void forget() {
            known = false;
        }

        void look(Plan plan, int[] bends) {
            if (known) {
                return;
            }
            known = true;
            fits = false;
            panels[0].begin(plan.cells, bends);
            tryFrom(plan, 0, 0);
        }

        /** Seams are tried by numbers and only a lesser OFF is taken, so of several the first order stays. */
        private void tryFrom(Plan plan, int depth, int bits) {
            if (depth >= plan.seams || depth >= MOST_SEAMS) {
                weigh(panels[depth], depth);
                return;
            }
            for (int seam = 0; seam < plan.seams; seam++) {
                if (plan.mayFollow(seam, bits)) {
                    panels[depth + 1].becomeAs(panels[depth]);
                    panels[depth + 1].doSeam(plan, seam);
                    tried[depth] = seam;
                    tryFrom(plan, depth + 1, bits | 1 << seam);
                }
            }
        }

        private void weigh(Panel panel, int depth) {
            panel.freeAll();
            int off = panel.off();
            if (!fits || off < leastOff) {
                fits = true;
                leastOff = off;
                System.arraycopy(tried, 0, nearest, 0, depth);
            }
        }

        /** Counted by sets of seams that are in: the ways to a set are those to it less its last seam. */
        int howManyFit(Plan plan) {
            int all = (1 << plan.seams) - 1;
            Arrays.fill(ways, 0);
            ways[0] = 1;
            for (int bits = 0; bits < all; bits++) {
                for (int seam = 0; seam < plan.seams; seam++) {
                    if (plan.mayFollow(seam, bits)) {
                        ways[bits | 1 << seam] += ways[bits];
                    }
                }
            }
            return ways[all];
        }
    }

    /**
     * What each cell must be set to. No cell's bend hangs on how another one is set (steps look at heat, hold
     * and their own cell's bend), so one run with all cells set alike tries a bend for every cell at once, and
     * what is found holds for a plan however its cells are set.
     */
    private static final class Beforehand {
        private final int[] bends = new int[MOST_CELLS];
        private final int[] alike = new int[MOST_CELLS];
        private boolean known = false;

        void forget() {
            known = false;
        }

        void look(Plan plan, Panel trial) {
            if (known) {
                return;
            }
            known = true;
            Arrays.fill(bends, NONE);
            for (int k = 0; k <= 2 * MOST_BEND; k++) {
                int bend = k % 2 == 1 ? -(k / 2) - 1 : k / 2;
                Arrays.fill(alike, bend);
                trial.go(plan, alike, BY_NUMBERS, NO_SEAM);
                keepWhereFlat(trial, bend);
            }
            for (int c = 1; c < MOST_CELLS; c++) {
                if (bends[c - 1] == NONE) {
                    bends[c] = NONE;
                }
            }
        }

        private void keepWhereFlat(Panel trial, int bend) {
            for (int c = 0; c < trial.cells; c++) {
                if (bends[c] == NONE && trial.bend[c] == 0) {
                    bends[c] = bend;
                }
            }
        }
    }

    /** The kinds of steps, the bodies that answer asks of them, and the trace of these. */
    private static final class Asks {
        private static final int SIZE_ASKED = 0, MARK_ASKED = 1;
        private static final int LENT_SIZE = 10, LENT_MARK = 20;
        private static final int MOST_TRACED = 16, DEEPEST = 16;
        private static final int ANY_STEP = 0, KINDS = 8;
        // By kinds: the nearest kind that it is too, and the bodies told for it (0: none).
        private static final int[] NEAREST = {0, 0, 0, 2, 3, 2, 2, 0};
        private static final int[] SIZE_BODY = {0, 0, 11, 12, 13, 0, 0, 14};
        private static final int[] MARK_BODY = {0, 21, 0, 0, 0, 0, 22, 23};
        private final int[] begun = new int[MOST_TRACED];
        private int many = 0;

        static boolean hasKind(int kind) {
            return kind >= 0 && kind < KINDS;
        }

        static boolean isOfKind(int kind, int wanted) {
            int at = kind;
            for (int up = 0; up < KINDS && hasKind(at) && at != ANY_STEP && at != wanted; up++) {
                at = NEAREST[at];
            }
            return at == wanted;
        }

        private static int bodyFor(int kind, int what) {
            int at = kind;
            for (int up = 0; up < KINDS && hasKind(at) && at != ANY_STEP; up++) {
                int told = what == SIZE_ASKED ? SIZE_BODY[at] : MARK_BODY[at];
                if (told != 0) {
                    return told;
                }
                at = NEAREST[at];
            }
            return what == SIZE_ASKED ? LENT_SIZE : LENT_MARK;
        }

        int answerOf(Plan plan, int act, int what) {
            many = 0;
            return asked(plan, act, what, 0);
        }

        private int asked(Plan plan, int act, int what, int depth) {
            return given(plan, act, bodyFor(plan.stepKind(act), what), depth + 1);
        }

        private int given(Plan plan, int act, int body, int depth) {
            if (depth > DEEPEST) {
                return 0;
            }
            leave(body);
            switch (body) {
                case LENT_SIZE:
                    return plan.actStrength[act];
                case 11:
                    return given(plan, act, LENT_SIZE, depth + 1) + asked(plan, act, MARK_ASKED, depth + 1);
                case 12:
                    return given(plan, act, 11, depth + 1) - 1;
                case 13:
                    return 2 * given(plan, act, 12, depth + 1);
                case 14:
                    return -given(plan, act, LENT_SIZE, depth + 1);
                case LENT_MARK:
                    return act;
                case 21:
                    return given(plan, act, LENT_MARK, depth + 1) + 100;
                case 22:
                    return -given(plan, act, LENT_MARK, depth + 1);
                case 23:
                    return given(plan, act, LENT_MARK, depth + 1) + asked(plan, act, SIZE_ASKED, depth + 1);
                default:
                    return 0;
            }
        }

        private void leave(int body) {
            if (many < MOST_TRACED) {
                begun[many] = body;
                many++;
            }
        }

        int traced(int i) {
            return i >= 0 && i < many ? begun[i] : NONE;
        }
    }
}
