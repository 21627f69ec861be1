/**
 * A designer of forms: boxes of kinds in parts of a form, ticks that open parts, skips that close
 * them, totals that are carried from boxes to boxes, answers, texts of answers, and undo.
 */
public final class TickForms {
    /** There is nothing to return. */
    public static final int NONE = -1;

    private static final int PARTS = 5;
    private static final int MOST_BOXES = 16;
    private static final int MOST_TEETH = 5;
    private static final int MOST_SKIP = 99;
    private static final int MOST_MASK = 65535;
    private static final int MOST_TOTAL = 999999;
    private static final int MOST_SIGNS = 60;
    private static final int MOST_SAVED = 6;

    private static final int COMB = 0;
    private static final int TICK = 1;
    private static final int SKIP = 2;
    private static final int TOTAL = 3;

    private static final int LAST_OF_BOX = 7;
    private static final int LAST_OF_PART = 5;
    private static final int LAST_COUNT = 8;
    private static final int LAST_OF_TRIAL = 2;

    private static final long FIRST_HASH = 3389L;
    private static final int EXPONENT_OF_ONE = 1023;
    private static final int FRACTION_BITS = 52;

    private final Form form = new Form();
    private final Form trial = new Form();
    private final History history = new History();
    private final Text text = new Text();

    public TickForms() {
    }

    // ---- boxes

    public int comb(int part, int teeth)
            throws IndexOutOfBoundsException, IllegalArgumentException, IllegalStateException {
        needPart(part, PARTS - 1);
        needArgument(isWithin(teeth, 1, MOST_TEETH));
        return addNew(COMB, part, teeth, NONE);
    }

    public int tick(int part, int opens)
            throws IndexOutOfBoundsException, IllegalArgumentException, IllegalStateException {
        needPart(part, PARTS - 1);
        needArgument(opens == NONE || isWithin(opens, part + 1, PARTS - 1));
        return addNew(TICK, part, opens, NONE);
    }

    public int skip(int part, int closes, int limit)
            throws IndexOutOfBoundsException, IllegalArgumentException, IllegalStateException {
        needPart(part, PARTS - 2);
        needArgument(isWithin(closes, part + 1, PARTS - 1) && isWithin(limit, 0, MOST_SKIP));
        return addNew(SKIP, part, closes, limit);
    }

    public int total(int part, int boxes)
            throws IndexOutOfBoundsException, IllegalArgumentException, IllegalStateException {
        needPart(part, PARTS - 1);
        needArgument(isWithin(boxes, 0, MOST_MASK) && form.canCarry(boxes));
        return addNew(TOTAL, part, boxes, NONE);
    }

    public int drop() throws IllegalStateException {
        int last = form.size() - 1;
        needState(last >= 0);
        history.save(form);
        int kind = form.kindOf(last);
        form.removeLast();
        return kind;
    }

    // ---- answers

    public int answer(int box, int value) throws IndexOutOfBoundsException, IllegalArgumentException {
        needBox(box);
        needArgument(form.fits(box, value));
        history.save(form);
        form.give(box, value);
        return form.wanting(form.openParts());
    }

    public int clear() {
        history.save(form);
        int answered = form.answered();
        int size = form.size();
        for (int b = 0; b < size; b++) {
            form.give(b, NONE);
        }
        return answered;
    }

    // ---- texts

    public int append(int code) throws IllegalArgumentException, IllegalStateException {
        needArgument(isWithin(code, 33, 126));
        needState(text.length() < MOST_SIGNS);
        text.add(code);
        return text.length();
    }

    public int clearBuffer() {
        int length = text.length();
        text.empty();
        return length;
    }

    public int firstError() {
        return text.errorAt();
    }

    public int fill() throws IllegalArgumentException {
        needArgument(text.isComplete());
        history.save(form);
        int given = giveAnswersOfText();
        text.empty();
        return given;
    }

    public int undo() throws IllegalStateException {
        needState(history.size() > 0);
        history.restore(form);
        return history.size();
    }

    // ---- looks; nothing is changed

    public int box(int box, int what) throws IndexOutOfBoundsException, IllegalArgumentException {
        needBox(box);
        needArgument(isWithin(what, 0, LAST_OF_BOX));
        return ofBox(box, what, form.openParts());
    }

    public int part(int part, int what) throws IndexOutOfBoundsException, IllegalArgumentException {
        needPart(part, PARTS - 1);
        needArgument(isWithin(what, 0, LAST_OF_PART));
        return ofPart(part, what, form.openParts());
    }

    public int count(int what) throws IllegalArgumentException {
        needArgument(isWithin(what, 0, LAST_COUNT));
        return ofForm(what, form.openParts());
    }

    // ---- what would be; nothing is changed

    public int ifAnswered(int box, int value, int what)
            throws IndexOutOfBoundsException, IllegalArgumentException {
        needBox(box);
        needArgument(form.fits(box, value) && isWithin(what, 0, LAST_OF_TRIAL));
        return ofTrial(box, value, what);
    }

    /** Parts that are open or not decide what is wanted, so all sets of open parts are tried. */
    public int shortest() {
        int fewest = MOST_BOXES;
        for (int open = 1; open < 1 << PARTS; open += 2) {
            if (form.canComeTo(open)) {
                fewest = Math.min(fewest, form.wanting(open));
            }
        }
        return fewest;
    }

    public int mostCarried() {
        int best = NONE;
        int most = 0;
        int size = form.size();
        for (int b = 0; b < size; b++) {
            int totals = form.totalsOver(b);
            if (totals > most) {
                most = totals;
                best = b;
            }
        }
        return best;
    }

    public double filled() {
        int open = form.openParts();
        int all = form.openToAnswer(open);
        if (all <= 0) {
            return 1.0;
        }
        return (double) (all - form.wanting(open)) / (double) all;
    }

    public long digest() {
        int open = form.openParts();
        long hash = hashParts(hashBoxes(hashCounts(FIRST_HASH, open), open), open);
        hash = mix(hash, shortest());
        hash = mix(hash, mostCarried());
        hash = mix(hash, bitsOfShare(filled()));
        int length = text.length();
        hash = mix(hash, length);
        for (int i = 0; i < length; i++) {
            hash = mix(hash, text.codeAt(i));
        }
        return hash;
    }

    // ---- tests of arguments

    private static boolean isWithin(int number, int least, int most) {
        return number >= least && number <= most;
    }

    private static void needPart(int part, int last) {
        if (!isWithin(part, 0, last)) {
            throw new IndexOutOfBoundsException("no such part");
        }
    }

    private void needBox(int box) {
        if (!form.has(box)) {
            throw new IndexOutOfBoundsException("no such box");
        }
    }

    private static void needArgument(boolean good) {
        if (!good) {
            throw new IllegalArgumentException("an argument does not fit");
        }
    }

    private static void needState(boolean good) {
        if (!good) {
            throw new IllegalStateException("not possible now");
        }
    }

    // ---- rows; these two alone use an index, so that it is tested in one place

    private static int at(int[] row, int index) {
        return index >= 0 && index < row.length ? row[index] : NONE;
    }

    private static void put(int[] row, int index, int value) {
        if (index >= 0 && index < row.length) {
            row[index] = value;
        }
    }

    // ---- parts of the calls

    private int addNew(int kind, int part, int setting, int limit) {
        needState(form.size() < MOST_BOXES);
        history.save(form);
        form.add(kind, part, setting, limit);
        return form.size() - 1;
    }

    /** The text is known to be complete, so that its signs alone tell what each of them is. */
    private int giveAnswersOfText() {
        int given = 0;
        int box = 0;
        int value = NONE;
        boolean afterEquals = false;
        int length = text.length();
        for (int i = 0; i <= length; i++) {
            int code = text.codeAt(i);
            if (code == ',' || code == NONE) {
                if (!form.has(box) || !form.fits(box, value)) {
                    return given;
                }
                form.give(box, value);
                given++;
                box = 0;
                value = NONE;
                afterEquals = false;
            } else if (code == '=') {
                afterEquals = true;
            } else if (code != '-') {
                int digit = code - '0';
                if (afterEquals) {
                    value = value == NONE ? digit : value * 10 + digit;
                } else {
                    box = box * 10 + digit;
                }
            }
        }
        return given;
    }

    private int ofBox(int box, int what, int open) {
        switch (what) {
            case 0:
                return form.kindOf(box);
            case 1:
                return form.partOf(box);
            case 2:
                return form.settingOf(box);
            case 3:
                return form.limitOf(box);
            case 4:
                return form.answerOf(box);
            case 5:
                return form.valueOf(box, open);
            case 6:
                return form.isOpen(box, open) ? 1 : 0;
            default:
                return form.wants(box, open) ? 1 : 0;
        }
    }

    private int ofPart(int part, int what, int open) {
        switch (what) {
            case 0:
                return isInMask(part, open) ? 1 : 0;
            case 1:
                return form.boxesIn(part);
            case 2:
                return form.wantingIn(part, open);
            case 3:
                return form.boxesFor(TICK, part);
            case 4:
                return form.boxesFor(SKIP, part);
            default:
                return form.isSkipped(part, open) ? 1 : 0;
        }
    }

    private int ofForm(int what, int open) {
        switch (what) {
            case 0:
                return form.size();
            case 1:
                return form.openBoxes(open);
            case 2:
                return form.wanting(open);
            case 3:
                return form.firstWanting(open);
            case 4:
                return form.wanting(open) == 0 ? 1 : 0;
            case 5:
                return Integer.bitCount(open);
            case 6:
                return open;
            case 7:
                return form.answered();
            default:
                return history.size();
        }
    }

    private int ofTrial(int box, int value, int what) {
        trial.copyFrom(form);
        trial.give(box, value);
        int open = trial.openParts();
        switch (what) {
            case 0:
                return trial.wanting(open);
            case 1:
                return open;
            default:
                return trial.valueOf(trial.lastTotal(), open);
        }
    }

    private static boolean isInMask(int number, int mask) {
        return (mask >> number & 1) == 1;
    }

    // ---- the hash

    private static long mix(long hash, long value) {
        return 31L * hash + value;
    }

    private long hashCounts(long start, int open) {
        long hash = start;
        for (int what = 0; what <= LAST_COUNT; what++) {
            hash = mix(hash, ofForm(what, open));
        }
        return hash;
    }

    private long hashBoxes(long start, int open) {
        long hash = start;
        int size = form.size();
        for (int b = 0; b < size; b++) {
            for (int what = 0; what <= LAST_OF_BOX; what++) {
                hash = mix(hash, ofBox(b, what, open));
            }
            if (form.kindOf(b) != TOTAL) {
                for (int what = 0; what <= LAST_OF_TRIAL; what++) {
                    hash = mix(hash, ofTrial(b, NONE, what));
                }
            }
        }
        return hash;
    }

    private long hashParts(long start, int open) {
        long hash = start;
        for (int p = 0; p < PARTS; p++) {
            for (int what = 0; what <= LAST_OF_PART; what++) {
                hash = mix(hash, ofPart(p, what, open));
            }
        }
        return hash;
    }

    /**
     * The bits of a share, 0.0 to 1.0, as Double.doubleToLongBits tells them, which LANGUAGE.md
     * leaves out. A share of at most 16 boxes is 0.0 or at least 1/16, so it is never subnormal.
     */
    private static long bitsOfShare(double share) {
        if (share <= 0.0) {
            return 0L;
        }
        int exponent = EXPONENT_OF_ONE;
        double scaled = share;
        for (int i = 0; i < EXPONENT_OF_ONE && scaled < 1.0; i++) {
            scaled = scaled * 2.0;
            exponent--;
        }
        long one = 1L << FRACTION_BITS;
        long fraction = (long) (scaled * (double) one) - one;
        return ((long) exponent << FRACTION_BITS) + fraction;
    }

    /** The boxes with their answers: all that undo brings back. */
    private static final class Form {
        private final int[] kinds = new int[MOST_BOXES];
        private final int[] parts = new int[MOST_BOXES];
        /** The teeth of a comb, the part of a tick or a skip, the mask of a total. */
        private final int[] settings = new int[MOST_BOXES];
        private final int[] limits = new int[MOST_BOXES];
        private final int[] answers = new int[MOST_BOXES];
        /** The values while they are summed: kept, so that no call makes a row. */
        private final int[] values = new int[MOST_BOXES];
        private int size;

        private int size() {
            return size;
        }

        private boolean has(int box) {
            return box >= 0 && box < size;
        }

        private int kindOf(int box) {
            return at(kinds, box);
        }

        private int partOf(int box) {
            return at(parts, box);
        }

        private int settingOf(int box) {
            return at(settings, box);
        }

        private int limitOf(int box) {
            return at(limits, box);
        }

        private int answerOf(int box) {
            return at(answers, box);
        }

        private void add(int kind, int part, int setting, int limit) {
            put(kinds, size, kind);
            put(parts, size, part);
            put(settings, size, setting);
            put(limits, size, limit);
            put(answers, size, NONE);
            size++;
        }

        private void removeLast() {
            size--;
        }

        private void give(int box, int value) {
            put(answers, box, value);
        }

        private void copyFrom(Form other) {
            for (int b = 0; b < other.size; b++) {
                put(kinds, b, at(other.kinds, b));
                put(parts, b, at(other.parts, b));
                put(settings, b, at(other.settings, b));
                put(limits, b, at(other.limits, b));
                put(answers, b, at(other.answers, b));
            }
            size = other.size;
        }

        // -- kinds and answers

        private boolean isFor(int box, int kind, int part) {
            return at(kinds, box) == kind && at(settings, box) == part;
        }

        private boolean isEmpty(int box) {
            return at(kinds, box) != TOTAL && at(answers, box) == NONE;
        }

        private boolean fits(int box, int value) {
            return value == NONE || isWithin(value, 0, mostAnswer(box));
        }

        private int mostAnswer(int box) {
            switch (at(kinds, box)) {
                case COMB:
                    return mostWithTeeth(at(settings, box));
                case TICK:
                    return 1;
                case SKIP:
                    return MOST_SKIP;
                default:
                    return NONE;
            }
        }

        private static int mostWithTeeth(int teeth) {
            int most = 0;
            for (int i = 0; i < teeth && i < MOST_TEETH; i++) {
                most = most * 10 + 9;
            }
            return most;
        }

        private int answered() {
            int number = 0;
            for (int b = 0; b < size; b++) {
                if (at(answers, b) != NONE) {
                    number++;
                }
            }
            return number;
        }

        // -- open parts, as a mask

        /** What opens or closes a part stands in lower parts, so one pass upwards is enough. */
        private int openParts() {
            int open = 1;
            for (int p = 1; p < PARTS; p++) {
                if (isTicked(p, open) && !isSkipped(p, open)) {
                    open |= 1 << p;
                }
            }
            return open;
        }

        private boolean isTicked(int part, int open) {
            boolean ticks = false;
            for (int b = 0; b < size; b++) {
                if (isFor(b, TICK, part)) {
                    if (isOpen(b, open) && at(answers, b) == 1) {
                        return true;
                    }
                    ticks = true;
                }
            }
            return !ticks;
        }

        private boolean isSkipped(int part, int open) {
            for (int b = 0; b < size; b++) {
                boolean closes = !isEmpty(b) && at(answers, b) >= at(limits, b);
                if (isFor(b, SKIP, part) && isOpen(b, open) && closes) {
                    return true;
                }
            }
            return false;
        }

        private int boxesFor(int kind, int part) {
            int number = 0;
            for (int b = 0; b < size; b++) {
                if (isFor(b, kind, part)) {
                    number++;
                }
            }
            return number;
        }

        // -- open boxes, and those that want an answer

        private boolean isOpen(int box, int open) {
            return isInMask(at(parts, box), open);
        }

        private boolean wants(int box, int open) {
            return isOpen(box, open) && isEmpty(box);
        }

        private int boxesIn(int part) {
            int number = 0;
            for (int b = 0; b < size; b++) {
                if (at(parts, b) == part) {
                    number++;
                }
            }
            return number;
        }

        private int wantingIn(int part, int open) {
            int number = 0;
            for (int b = 0; b < size; b++) {
                if (at(parts, b) == part && wants(b, open)) {
                    number++;
                }
            }
            return number;
        }

        private int wanting(int open) {
            int number = 0;
            for (int b = 0; b < size; b++) {
                if (wants(b, open)) {
                    number++;
                }
            }
            return number;
        }

        private int firstWanting(int open) {
            for (int b = 0; b < size; b++) {
                if (wants(b, open)) {
                    return b;
                }
            }
            return NONE;
        }

        private int openBoxes(int open) {
            int number = 0;
            for (int b = 0; b < size; b++) {
                if (isOpen(b, open)) {
                    number++;
                }
            }
            return number;
        }

        private int openToAnswer(int open) {
            int number = 0;
            for (int b = 0; b < size; b++) {
                if (isOpen(b, open) && at(kinds, b) != TOTAL) {
                    number++;
                }
            }
            return number;
        }

        // -- which parts can be open when nothing is wanted any more

        /**
         * Each tick and each skip is for one part alone, so the parts are looked at one by one,
         * with all the lower ones as they stand in the mask.
         */
        private boolean canComeTo(int open) {
            for (int p = 1; p < PARTS; p++) {
                boolean can = isInMask(p, open) ? canOpen(p, open) : canClose(p, open);
                if (!can) {
                    return false;
                }
            }
            return true;
        }

        private boolean canOpen(int part, int open) {
            boolean ticks = isTicked(part, open) || hasWanting(TICK, part, NONE, open);
            return ticks && !isSkipped(part, open) && !hasWanting(SKIP, part, 0, open);
        }

        private boolean canClose(int part, int open) {
            return !isTicked(part, open) || isSkipped(part, open)
                    || hasWanting(SKIP, part, MOST_SKIP, open);
        }

        /**
         * The limit is asked for because an empty skip with the limit 0 closes its part by every
         * answer, and it wants one; a tick's limit is NONE.
         */
        private boolean hasWanting(int kind, int part, int mostLimit, int open) {
            for (int b = 0; b < size; b++) {
                boolean wanting = isOpen(b, open) && isEmpty(b);
                if (isFor(b, kind, part) && wanting && at(limits, b) <= mostLimit) {
                    return true;
                }
            }
            return false;
        }

        // -- totals

        private boolean canCarry(int mask) {
            for (int b = 0; b < MOST_BOXES; b++) {
                boolean hasValue = at(kinds, b) == COMB || at(kinds, b) == TOTAL;
                if (isInMask(b, mask) && !(has(b) && hasValue)) {
                    return false;
                }
            }
            return true;
        }

        private int lastTotal() {
            for (int b = size - 1; b >= 0; b--) {
                if (at(kinds, b) == TOTAL) {
                    return b;
                }
            }
            return NONE;
        }

        /** A total carries lower boxes alone, so the values are told upwards. */
        private int valueOf(int box, int open) {
            for (int b = 0; b <= box && b < size; b++) {
                put(values, b, at(kinds, b) == TOTAL ? sumOf(b, open) : ownValue(b));
            }
            return at(values, box);
        }

        private int ownValue(int box) {
            if (at(kinds, box) != COMB) {
                return NONE;
            }
            return isEmpty(box) ? 0 : at(answers, box);
        }

        private int sumOf(int total, int open) {
            int sum = 0;
            for (int b = 0; b < total; b++) {
                if (isInMask(b, at(settings, total)) && isOpen(b, open)) {
                    sum += at(values, b);
                }
            }
            return Math.min(sum, MOST_TOTAL);
        }

        private int totalsOver(int box) {
            int carriers = 0;
            for (int t = box + 1; t < size; t++) {
                int mask = at(settings, t);
                boolean carried = isInMask(box, mask) || (mask & carriers) != 0;
                if (at(kinds, t) == TOTAL && carried) {
                    carriers |= 1 << t;
                }
            }
            return Integer.bitCount(carriers);
        }
    }

    /** The saved states, in a ring, so that the oldest one is written over first. */
    private static final class History {
        private final Form[] states = new Form[MOST_SAVED];
        private int next;
        private int size;

        private History() {
            for (int i = 0; i < states.length; i++) {
                states[i] = new Form();
            }
        }

        private int size() {
            return size;
        }

        private void save(Form form) {
            Form state = stateAt(next);
            if (state != null) {
                state.copyFrom(form);
            }
            next = next + 1 < MOST_SAVED ? next + 1 : 0;
            size = Math.min(size + 1, MOST_SAVED);
        }

        private void restore(Form form) {
            next = next > 0 ? next - 1 : MOST_SAVED - 1;
            size--;
            Form state = stateAt(next);
            if (state != null) {
                form.copyFrom(state);
            }
        }

        private Form stateAt(int index) {
            return index >= 0 && index < states.length ? states[index] : null;
        }
    }

    /** The buffer, and how answers are written in it. */
    private static final class Text {
        private static final int WRONG = -1;
        private static final int BOX_AHEAD = 0;
        private static final int BOX_ONE = 1;
        private static final int BOX_WHOLE = 2;
        private static final int ANSWER_AHEAD = 3;
        /** From here on a text may end; the states up to ANSWER_WHOLE count the digits read. */
        private static final int ANSWER_ONE_DIGIT = 4;
        private static final int ANSWER_WHOLE = 8;

        private final int[] codes = new int[MOST_SIGNS];
        private int length;

        private int length() {
            return length;
        }

        private int codeAt(int index) {
            return index < length ? at(codes, index) : NONE;
        }

        private void add(int code) {
            put(codes, length, code);
            length++;
        }

        private void empty() {
            length = 0;
        }

        private int errorAt() {
            int state = BOX_AHEAD;
            for (int i = 0; i < length; i++) {
                state = stateAfter(state, codeAt(i));
                if (state == WRONG) {
                    return i;
                }
            }
            return length;
        }

        private boolean isComplete() {
            int state = BOX_AHEAD;
            for (int i = 0; i < length && state != WRONG; i++) {
                state = stateAfter(state, codeAt(i));
            }
            return state >= ANSWER_ONE_DIGIT;
        }

        private static int stateAfter(int state, int code) {
            switch (state) {
                case BOX_AHEAD:
                    return code == '1' ? BOX_ONE : isDigit(code) ? BOX_WHOLE : WRONG;
                case BOX_ONE:
                    return isWithin(code, '0', '5') ? BOX_WHOLE : afterBox(code);
                case BOX_WHOLE:
                    return afterBox(code);
                case ANSWER_AHEAD:
                    if (code == '0' || code == '-') {
                        return ANSWER_WHOLE;
                    }
                    return isDigit(code) ? ANSWER_ONE_DIGIT : WRONG;
                case ANSWER_WHOLE:
                    return afterAnswer(code);
                default:
                    return isDigit(code) ? state + 1 : afterAnswer(code);
            }
        }

        private static boolean isDigit(int code) {
            return isWithin(code, '0', '9');
        }

        private static int afterBox(int code) {
            return code == '=' ? ANSWER_AHEAD : WRONG;
        }

        private static int afterAnswer(int code) {
            return code == ',' ? BOX_AHEAD : WRONG;
        }
    }
}
