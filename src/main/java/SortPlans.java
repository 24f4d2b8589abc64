import java.util.Arrays;

/**
 * Sort plans as texts. A text is given sign by sign, read into an edition, and the latest edition is the plan that
 * the other calls ask, check, exchange bins in and print.
 *
 * <p>Everything an object needs is made by its constructor; no call makes anything more.
 */
public final class SortPlans {
    public static final int UNKNOWN = -101, OUTSIDE = -102, STATE = -103;

    private static final int TARGETS = 40;
    private static final int BINS = 60;
    private static final int PASSES = 4;
    private static final int SHIFTS = 3;
    private static final int GREATEST_CODE = 9999;
    private static final int GREATEST_KIND = 9;
    private static final int EDITIONS = 8;
    private static final int SLOTS = TARGETS * SHIFTS * PASSES;

    private final Reading reading;
    private final Faults faults;
    private final Sheet sheet;
    /** The bins of each edition as it was read; comparing asks for nothing else of an edition. */
    private final int[][] editions;
    private int editionCount;
    private Plan plan;

    public SortPlans() {
        reading = new Reading();
        faults = new Faults();
        sheet = new Sheet();
        editions = new int[EDITIONS][SLOTS];
        plan = new Plan();
    }

    public void sign(int c) {
        reading.text.put(c);
    }

    public int read() {
        int sentences = reading.readText();
        int length = reading.text.length;
        reading.text.length = 0;
        if (!reading.isFine()) {
            return -1 - reading.trouble;
        }
        if (editionCount >= EDITIONS) {
            return -1 - length;
        }
        addEdition();
        return sentences;
    }

    public int target(int code, int kind) {
        if (!isWithin(code, 0, GREATEST_CODE) || !isWithin(kind, 0, GREATEST_KIND)) {
            return OUTSIDE;
        }
        return hasPlan() ? plan.leastTargetOf(code, kind) : STATE;
    }

    public int bin(int target, int pass, int shift) {
        if (!isTarget(target)) {
            return UNKNOWN;
        }
        if (!isWithin(pass, 0, PASSES - 1) || !isWithin(shift, 0, SHIFTS - 1)) {
            return OUTSIDE;
        }
        if (!hasPlan()) {
            return STATE;
        }
        return plan.held[target] ? 0 : plan.bins[slot(target, pass, shift)];
    }

    public int check() {
        if (!hasPlan()) {
            return STATE;
        }
        faults.findIn(plan);
        return faults.count;
    }

    public int fault(int i, int what) {
        return faults.tell(i, what);
    }

    public int hold(int target, boolean on) {
        if (!isTarget(target)) {
            return UNKNOWN;
        }
        if (!hasPlan()) {
            return STATE;
        }
        if (plan.held[target] == on) {
            return 0;
        }
        plan.held[target] = on;
        return 1;
    }

    public int compare(int edition) {
        // Without a plan every edition that there could ever be is a matter of STATE, not of UNKNOWN.
        int known = hasPlan() ? editionCount : EDITIONS;
        if (!isWithin(edition, 0, known - 1)) {
            return UNKNOWN;
        }
        return hasPlan() ? plan.countTargetsOtherThan(editions[edition]) : STATE;
    }

    public int swap(int a, int b) {
        if (!isBin(a) || !isBin(b)) {
            return UNKNOWN;
        }
        return hasPlan() ? plan.exchange(a, b) : STATE;
    }

    public int overflow(int bin) {
        if (!isBin(bin)) {
            return UNKNOWN;
        }
        return hasPlan() ? plan.endOfGoingOn(bin) : STATE;
    }

    public int print(int i) {
        if (!hasPlan()) {
            return 0;
        }
        sheet.write(plan);
        return sheet.signAt(i);
    }

    private boolean hasPlan() {
        return editionCount > 0;
    }

    private void addEdition() {
        plan = reading.giveDraftFor(plan);
        System.arraycopy(plan.bins, 0, editions[editionCount], 0, SLOTS);
        editionCount++;
    }

    private static boolean isWithin(int number, int least, int greatest) {
        return number >= least && number <= greatest;
    }

    private static boolean isTarget(int target) {
        return isWithin(target, 1, TARGETS);
    }

    private static boolean isBin(int bin) {
        return isWithin(bin, 1, BINS);
    }

    /** Where a target's bin in a pass of a shift stands; all three numbers are tested before. */
    private static int slot(int target, int pass, int shift) {
        return ((target - 1) * SHIFTS + shift) * PASSES + pass;
    }

    /** The signs that were given and not yet read. */
    private static final class Text {
        static final int MOST = 600;
        private static final int LEAST_SIGN = 32;
        private static final int GREATEST_SIGN = 126;

        final char[] signs = new char[MOST];
        int length;

        void put(int c) {
            if (isWithin(c, LEAST_SIGN, GREATEST_SIGN) && length < MOST) {
                signs[length] = (char) c;
                length++;
            }
        }

        /** The sign at a place, or 0, which is no sign of any text, behind the end. */
        int signAt(int place) {
            return place >= 0 && place < length ? signs[place] : 0;
        }
    }

    /** Goes through the text from left to right and stops at the first trouble. */
    private static final class Reading {
        private static final int NO_TROUBLE = -1;
        private static final int MOST_FIGURES = 4;

        final Text text = new Text();
        /** What the text is read into, so that a text with a trouble in it leaves the plan as it was. */
        private Plan draft = new Plan();
        private int at;
        int trouble = NO_TROUBLE;

        /** Answers how many sentences were read; the count is of use only if all is fine. */
        int readText() {
            draft.clear();
            at = 0;
            trouble = NO_TROUBLE;
            int sentences = 0;
            while (sentences < Text.MOST && at < text.length && isFine()) {
                readSentence();
                sentences++;
            }
            return sentences;
        }

        boolean isFine() {
            return trouble == NO_TROUBLE;
        }

        /** The plan that is given for the draft becomes the next draft, so that no reading makes new rows. */
        Plan giveDraftFor(Plan old) {
            Plan given = draft;
            draft = old;
            return given;
        }

        private void readSentence() {
            int start = at;
            int letter = text.signAt(at);
            at++;
            switch (letter) {
                case 'T':
                    readRange();
                    break;
                case 'B':
                    readBin(start);
                    break;
                case 'O':
                    readGoingOn(start);
                    break;
                default:
                    trouble = start;
                    break;
            }
        }

        private void readRange() {
            int target = readNumber(1, TARGETS);
            readSign(',');
            int from = readNumber(0, GREATEST_CODE);
            readSign('-');
            int to = readNumber(from, GREATEST_CODE);
            readSign(',');
            int kind = readNumber(0, GREATEST_KIND);
            readSign(';');
            if (isFine()) {
                draft.addRange(target, from, to, kind);
            }
        }

        private void readBin(int start) {
            int target = readNumber(1, TARGETS);
            readSign(',');
            int pass = readNumber(0, PASSES - 1);
            readSign(',');
            int shift = readNumber(0, SHIFTS - 1);
            readSign(',');
            int bin = readNumber(1, BINS);
            boolean shares = readPlus();
            readSign(';');
            if (isFine() && !draft.addBin(slot(target, pass, shift), bin, shares)) {
                trouble = start;
            }
        }

        private void readGoingOn(int start) {
            int bin = readNumber(1, BINS);
            readSign(',');
            int next = readNumber(1, BINS);
            readSign(';');
            if (isFine() && !draft.addGoingOn(bin, next)) {
                trouble = start;
            }
        }

        /** A text that ends too early has its trouble at its length, which is where the sign is missing. */
        private void readSign(char due) {
            if (!isFine()) {
                return;
            }
            if (text.signAt(at) == due) {
                at++;
            } else {
                trouble = at;
            }
        }

        private boolean readPlus() {
            if (!isFine() || text.signAt(at) != '+') {
                return false;
            }
            at++;
            return true;
        }

        /** Answers a number from least to greatest even after a trouble, so that nobody needs to look at each. */
        private int readNumber(int least, int greatest) {
            if (!isFine()) {
                return least;
            }
            int first = at;
            int number = 0;
            for (int figures = 0; figures < MOST_FIGURES && isFigure(text.signAt(at)); figures++) {
                number = number * 10 + text.signAt(at) - '0';
                at++;
            }
            if (at == first || !isWithin(number, least, greatest)) {
                trouble = first;
                return least;
            }
            return number;
        }

        private static boolean isFigure(int sign) {
            return isWithin(sign, '0', '9');
        }
    }

    /** What an edition says, with what was exchanged or held since. Rows by target or bin leave place 0 unused. */
    private static final class Plan {
        /** No text holds more: the shortest such sentence, T1,0-0,0; has nine signs. */
        private static final int MOST_RANGES = Text.MOST / 9;

        final int[] bins = new int[SLOTS];
        /** Of use only where there is a bin, with which it is set; so nothing has to clear it. */
        final boolean[] shares = new boolean[SLOTS];
        final boolean[] used = new boolean[TARGETS + 1];
        final boolean[] held = new boolean[TARGETS + 1];
        private final int[] next = new int[BINS + 1];
        private final int[] rangeTarget = new int[MOST_RANGES];
        private final int[] rangeFrom = new int[MOST_RANGES];
        private final int[] rangeTo = new int[MOST_RANGES];
        private final int[] rangeKind = new int[MOST_RANGES];
        private int ranges;

        void clear() {
            Arrays.fill(bins, 0);
            Arrays.fill(next, 0);
            for (int target = 0; target <= TARGETS; target++) {
                used[target] = false;
                held[target] = false;
            }
            ranges = 0;
        }

        void addRange(int target, int from, int to, int kind) {
            if (ranges >= MOST_RANGES) {
                return;
            }
            rangeTarget[ranges] = target;
            rangeFrom[ranges] = from;
            rangeTo[ranges] = to;
            rangeKind[ranges] = kind;
            ranges++;
            used[target] = true;
        }

        /** False, and nothing changed, if there is a bin already. */
        boolean addBin(int slot, int bin, boolean mayShare) {
            if (bins[slot] != 0) {
                return false;
            }
            bins[slot] = bin;
            shares[slot] = mayShare;
            return true;
        }

        /** False, and nothing changed, if the bin goes on already. */
        boolean addGoingOn(int bin, int to) {
            if (next[bin] != 0) {
                return false;
            }
            next[bin] = to;
            return true;
        }

        int leastTargetOf(int code, int kind) {
            int least = 0;
            for (int r = 0; r < ranges; r++) {
                boolean fits = rangeKind[r] == kind && isWithin(code, rangeFrom[r], rangeTo[r]);
                if (fits && (least == 0 || rangeTarget[r] < least)) {
                    least = rangeTarget[r];
                }
            }
            return least;
        }

        /** How many passes a shift has: one more than the greatest with a bin, also a bin of a target not used. */
        int passesOf(int shift) {
            int passes = 0;
            for (int target = 1; target <= TARGETS; target++) {
                for (int pass = passes; pass < PASSES; pass++) {
                    if (bins[slot(target, pass, shift)] != 0) {
                        passes = pass + 1;
                    }
                }
            }
            return passes;
        }

        int countTargetsOtherThan(int[] edition) {
            int count = 0;
            for (int target = 1; target <= TARGETS; target++) {
                if (isOtherThan(edition, target)) {
                    count++;
                }
            }
            return count;
        }

        private boolean isOtherThan(int[] edition, int target) {
            int first = slot(target, 0, 0);
            for (int slot = first; slot < first + SHIFTS * PASSES; slot++) {
                if (bins[slot] != edition[slot]) {
                    return true;
                }
            }
            return false;
        }

        int exchange(int a, int b) {
            int count = 0;
            for (int slot = 0; slot < SLOTS; slot++) {
                int bin = bins[slot];
                if (bin == a || bin == b) {
                    bins[slot] = bin == a ? b : a;
                    count++;
                }
            }
            return count;
        }

        /** Who has gone on as often as there are bins has come to one of them again. */
        int endOfGoingOn(int bin) {
            int at = bin;
            for (int steps = 0; steps < BINS; steps++) {
                if (next[at] == 0) {
                    return at;
                }
                at = next[at];
            }
            return -1;
        }
    }

    /** The faults that the latest check found: all are counted, the first of them kept. */
    private static final class Faults {
        private static final int MOST_TOLD = 100;
        private static final int PARTS = 5;

        private final int[] told = new int[MOST_TOLD * PARTS];
        int count;

        void findIn(Plan plan) {
            count = 0;
            for (int shift = 0; shift < SHIFTS; shift++) {
                int passes = plan.passesOf(shift);
                for (int pass = 0; pass < passes; pass++) {
                    findHoles(plan, shift, pass);
                    findDoubles(plan, shift, pass);
                }
            }
        }

        int tell(int i, int what) {
            if (i < 0 || i >= count || i >= MOST_TOLD || what < 0 || what >= PARTS) {
                return -1;
            }
            return told[i * PARTS + what];
        }

        private void findHoles(Plan plan, int shift, int pass) {
            for (int target = 1; target <= TARGETS; target++) {
                if (plan.used[target] && plan.bins[slot(target, pass, shift)] == 0) {
                    add(shift, pass, target, 0, 0);
                }
            }
        }

        private void findDoubles(Plan plan, int shift, int pass) {
            for (int target = 1; target < TARGETS; target++) {
                int bin = plan.bins[slot(target, pass, shift)];
                if (plan.used[target] && bin != 0) {
                    findDoublesOf(plan, shift, pass, target, bin);
                }
            }
        }

        private void findDoublesOf(Plan plan, int shift, int pass, int target, int bin) {
            boolean shares = plan.shares[slot(target, pass, shift)];
            for (int other = target + 1; other <= TARGETS; other++) {
                int slot = slot(other, pass, shift);
                if (plan.used[other] && plan.bins[slot] == bin && !(shares && plan.shares[slot])) {
                    add(shift, pass, target, other, bin);
                }
            }
        }

        private void add(int shift, int pass, int target, int other, int bin) {
            if (count < MOST_TOLD) {
                int first = count * PARTS;
                told[first] = shift;
                told[first + 1] = pass;
                told[first + 2] = target;
                told[first + 3] = other;
                told[first + 4] = bin;
            }
            count++;
        }
    }

    /** The sheet of a plan: its bins and their targets in shift 0, pass 0. */
    private static final class Sheet {
        /** A target brings at most a bin of two figures, a colon, its own two figures and a sign behind them. */
        private static final int MOST_SIGNS = TARGETS * 6;

        private final char[] signs = new char[MOST_SIGNS];
        private int length;

        void write(Plan plan) {
            length = 0;
            for (int bin = 1; bin <= BINS; bin++) {
                writeBin(plan, bin);
            }
        }

        int signAt(int i) {
            return i >= 0 && i < length ? signs[i] : 0;
        }

        private void writeBin(Plan plan, int bin) {
            boolean begun = false;
            for (int target = 1; target <= TARGETS; target++) {
                if (plan.bins[slot(target, 0, 0)] != bin) {
                    continue;
                }
                if (begun) {
                    put(',');
                } else {
                    putNumber(bin);
                    put(':');
                    begun = true;
                }
                putNumber(target);
            }
            if (begun) {
                put(';');
            }
        }

        /** Targets and bins have two figures at most. */
        private void putNumber(int number) {
            if (number >= 10) {
                put((char) ('0' + number / 10));
            }
            put((char) ('0' + number % 10));
        }

        private void put(char sign) {
            if (length < MOST_SIGNS) {
                signs[length] = sign;
                length++;
            }
        }
    }
}
