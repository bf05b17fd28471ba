/**
 * A laboratory of code that ends in many ways: texts of tokens are checked, and run to a value or to a fault.
 *
 * The lab itself only guards its arguments and remembers where a text was wrong; the Checker knows what a good text
 * is, and the Machine does good texts alone.
 */
public final class EndingsLab {
    public static final int REFUSED = -1;
    public static final int FULL = -2;
    public static final int WRONG = -3;
    public static final int RETURNED = 0;
    public static final int RAISED = 1;
    public static final int LATE = 2;

    private static final int GOOD = 0;
    private static final int NONE = -1;

    private static final int PROCEDURES = 4;
    private static final int TOKENS = 32;
    private static final int BLOCKS = 6;
    private static final int TIMES_AT_MOST = 5;
    private static final int LOCKS = 3;
    private static final int KINDS = 7;
    private static final int CALLS = 5;
    private static final int STEPS = 300;
    private static final int EVENTS_KEPT = 32;

    // A step makes one fault at most, its own or the MONITOR that ends the run it calls; the outermost run has no step.
    private static final int FAULTS = STEPS + 1;

    private static final int NOTE = 0;
    private static final int ADD = 1;
    private static final int DIVIDE = 2;
    private static final int TIMES = 3;
    private static final int BREAK = 4;
    private static final int NEXT = 5;
    private static final int RETURN = 6;
    private static final int RAISE = 7;
    private static final int WRAP = 8;
    private static final int TRY = 9;
    private static final int LOCK = 10;
    private static final int ENTER = 11;
    private static final int LEAVE = 12;
    private static final int CALL = 13;
    private static final int ABOVE = 14;
    private static final int HELD = 15;
    private static final int CATCH = 16;
    private static final int LAST = 17;
    private static final int END = 18;

    private static final int CATCHES_OF_TRY = 3;
    private static final int LAST_OF_TRY = 4;
    private static final int CATCHES_AT_MOST = 2;

    private static final int ANY_FAULT = 0;
    private static final int SOFT = 1;
    private static final int HARD = 2;
    private static final int COLD = 3;
    private static final int MONITOR = 4;
    private static final int DEEP = 5;
    private static final int ZERO = 6;

    private final Machine machine;
    private final Checker checker;
    private int wrongPlace;

    public EndingsLab() {
        machine = new Machine();
        checker = new Checker();
        wrongPlace = REFUSED;
    }

    public int token(int procedure, int op, int a) {
        if (!isBelow(procedure, PROCEDURES) || !isToken(op, a)) {
            return REFUSED;
        }
        Text text = machine.texts[procedure];
        return text.append(op, a) ? text.size : FULL;
    }

    public int wipe(int procedure) {
        if (!isBelow(procedure, PROCEDURES)) {
            return REFUSED;
        }
        return machine.texts[procedure].clear();
    }

    public int check(int procedure) {
        return isBelow(procedure, PROCEDURES) ? judge(procedure) : REFUSED;
    }

    public int place() {
        return wrongPlace;
    }

    public int run(int procedure, int number, boolean ownThread) {
        if (!isBelow(procedure, PROCEDURES)) {
            return REFUSED;
        }
        // Whose thread it is makes no difference to any answer, so ownThread is not looked at.
        return judgeAll(procedure) == GOOD ? machine.perform(procedure, number) : WRONG;
    }

    public int value() {
        return machine.cameTo;
    }

    public int fault(int k) {
        return k < 0 ? REFUSED : machine.faults.kindOf(machine.faults.causeOf(machine.endedBy, k));
    }

    public int steps() {
        return machine.begun;
    }

    public int events() {
        return machine.log.noted;
    }

    public int event(int i) {
        return machine.log.fromLast(i);
    }

    public int most() {
        return machine.locks.greatest;
    }

    private int judge(int procedure) {
        int at = checker.firstWrong(machine.texts[procedure]);
        wrongPlace = at == NONE ? REFUSED : TOKENS * procedure + at;
        return at == NONE ? GOOD : WRONG;
    }

    private int judgeAll(int asked) {
        for (int p = 0; p < PROCEDURES; p++) {
            if ((p == asked || machine.texts[p].size > 0) && judge(p) == WRONG) {
                return WRONG;
            }
        }
        return GOOD;
    }

    private static boolean isToken(int op, int a) {
        switch (op) {
            case TIMES:
                return isBelow(a, TIMES_AT_MOST + 1);
            case RAISE:
            case WRAP:
            case CATCH:
                return isBelow(a, KINDS);
            case TRY:
                return isBelow(a & ~LAST_OF_TRY, CATCHES_AT_MOST + 1);
            case LOCK:
            case ENTER:
            case LEAVE:
            case HELD:
                return isBelow(a, LOCKS);
            case CALL:
                return isBelow(a, PROCEDURES);
            default:
                return isBelow(op, END + 1);
        }
    }

    private static boolean isBelow(int number, int bound) {
        return number >= 0 && number < bound;
    }

    private static boolean isOfKind(int kind, int wanted) {
        return wanted == ANY_FAULT || kind == wanted
            || kind == COLD && wanted == SOFT
            || kind == ZERO && wanted == HARD;
    }

    /** How an item, or a block, came to its end; ON is the plain way. */
    private enum Ending { ON, BROKEN, NEXT_TIME, VALUE, FAULT, TOO_LATE }

    private static final class Text {
        private final int[] ops = new int[TOKENS];
        private final int[] numbers = new int[TOKENS];
        // Of a token with a block: the place of its END; of any other: its own. The Checker writes it.
        private final int[] ends = new int[TOKENS];
        private int size;

        boolean append(int op, int a) {
            if (size >= TOKENS) {
                return false;
            }
            ops[size] = op;
            numbers[size] = a;
            size++;
            return true;
        }

        int clear() {
            int had = size;
            size = 0;
            return had;
        }

        int catchesOf(int at) {
            return ops[at] == TRY ? numbers[at] & CATCHES_OF_TRY : 0;
        }

        boolean hasLast(int at) {
            return ops[at] == TRY && (numbers[at] & LAST_OF_TRY) != 0;
        }

        /** The place behind an item with all its blocks. */
        int behind(int at) {
            int parts = catchesOf(at) + (hasLast(at) ? 1 : 0);
            int end = ends[at];
            for (int part = 0; part < parts && end + 1 < size; part++) {
                end = ends[end + 1];
            }
            return end + 1;
        }
    }

    /** Reads a text once, with rows of the blocks that are open: [0] is the outside, [1] the text's own block. */
    private static final class Checker {
        private final int[] openers = new int[BLOCKS + 1];
        private final boolean[] inTimes = new boolean[BLOCKS + 1];
        private final boolean[] inCatch = new boolean[BLOCKS + 1];
        // What the TRY that was begun last in this block still lacks, as a sum like its own number.
        private final int[] lacking = new int[BLOCKS + 1];
        private int depth;

        /** The place of the first token that no good text could have there, the size of a mere beginning, or NONE. */
        int firstWrong(Text text) {
            depth = 0;
            open(NONE, false, false);
            for (int at = 0; at < text.size; at++) {
                if (depth == 0 || !mayStand(text.ops[at])) {
                    return at;
                }
                take(text, at);
            }
            return depth == 0 ? NONE : text.size;
        }

        private boolean mayStand(int op) {
            if (lacking[depth] != 0) {
                return op == ((lacking[depth] & CATCHES_OF_TRY) != 0 ? CATCH : LAST);
            }
            switch (op) {
                case CATCH:
                case LAST:
                    return false;
                case BREAK:
                case NEXT:
                    return inTimes[depth];
                case WRAP:
                    return inCatch[depth];
                case TIMES:
                case TRY:
                case LOCK:
                case ABOVE:
                    // The END of its block would already stand too deep.
                    return depth < BLOCKS;
                default:
                    return true;
            }
        }

        private void take(Text text, int at) {
            text.ends[at] = at;
            switch (text.ops[at]) {
                case END:
                    close(text, at);
                    break;
                case TRY:
                    lacking[depth] = text.numbers[at];
                    open(at, false, false);
                    break;
                case CATCH:
                    lacking[depth]--;
                    open(at, false, true);
                    break;
                case LAST:
                    lacking[depth] = 0;
                    open(at, false, false);
                    break;
                case TIMES:
                    open(at, true, false);
                    break;
                case LOCK:
                case ABOVE:
                    open(at, false, false);
                    break;
                default:
                    break;
            }
        }

        private void open(int opener, boolean ofTimes, boolean ofCatch) {
            if (depth >= BLOCKS) {
                return;
            }
            inTimes[depth + 1] = ofTimes || inTimes[depth];
            inCatch[depth + 1] = ofCatch || inCatch[depth];
            depth++;
            openers[depth] = opener;
            lacking[depth] = 0;
        }

        private void close(Text text, int at) {
            if (openers[depth] != NONE) {
                text.ends[openers[depth]] = at;
            }
            depth--;
        }
    }

    /** The faults of one run, in rows that every run uses again; a fault is known by its place there. */
    private static final class Faults {
        private final int[] kinds = new int[FAULTS];
        private final int[] causes = new int[FAULTS];
        private int made;

        void forget() {
            made = 0;
        }

        int make(int kind, int cause) {
            if (made >= FAULTS) {
                return NONE;
            }
            kinds[made] = kind;
            causes[made] = cause;
            made++;
            return made - 1;
        }

        int kindOf(int fault) {
            return isBelow(fault, made) ? kinds[fault] : REFUSED;
        }

        /** The k-th cause; a cause is always older than its fault, so the chain has an end. */
        int causeOf(int fault, int k) {
            int found = fault;
            for (int i = 0; i < k && isBelow(found, made); i++) {
                found = causes[found];
            }
            return found;
        }
    }

    private static final class Locks {
        private final int[] held = new int[LOCKS];
        private int total;
        private int greatest;

        void free() {
            for (int l = 0; l < LOCKS; l++) {
                held[l] = 0;
            }
            total = 0;
            greatest = 0;
        }

        void hold(int l) {
            held[l]++;
            total++;
            greatest = Math.max(greatest, total);
        }

        void release(int l, int often) {
            held[l] -= often;
            total -= often;
        }

        boolean isHeld(int l) {
            return held[l] > 0;
        }
    }

    private static final class EventLog {
        private final int[] kept = new int[EVENTS_KEPT];
        private int noted;

        void note(int a) {
            kept[Math.floorMod(noted, EVENTS_KEPT)] = a;
            noted++;
        }

        int fromLast(int i) {
            if (!isBelow(i, EVENTS_KEPT) || i >= noted) {
                return REFUSED;
            }
            return kept[Math.floorMod(noted - 1 - i, EVENTS_KEPT)];
        }
    }

    /** What one run of a procedure has of its own. */
    private static final class Frame {
        private final int[] entered = new int[LOCKS];
        private int procedure;
        private int account;
        // The value or the fault that the ending under way brings along.
        private int carried;
        // The fault of the innermost CATCH around the item that is done now.
        private int caught;

        void begin(int ofProcedure, int number) {
            procedure = ofProcedure;
            account = number;
            carried = 0;
            caught = NONE;
            for (int l = 0; l < LOCKS; l++) {
                entered[l] = 0;
            }
        }
    }

    /**
     * Does good texts. A level is the number of calls around, and has its frame; levels end at CALLS and the blocks of
     * a text at BLOCKS, which keeps the recursion low.
     */
    private static final class Machine {
        private final Text[] texts = new Text[PROCEDURES];
        private final Frame[] frames = new Frame[CALLS + 1];
        private final Faults faults = new Faults();
        private final Locks locks = new Locks();
        private final EventLog log = new EventLog();
        private int begun;
        private int cameTo;
        private int endedBy = NONE;

        Machine() {
            for (int p = 0; p < PROCEDURES; p++) {
                texts[p] = new Text();
            }
            for (int level = 0; level <= CALLS; level++) {
                frames[level] = new Frame();
            }
        }

        int perform(int procedure, int number) {
            faults.forget();
            locks.free();
            begun = 0;
            endedBy = NONE;
            frames[0].begin(procedure, number);
            Ending ending = doProcedure(0);
            if (ending == Ending.TOO_LATE) {
                return LATE;
            }
            if (ending == Ending.FAULT) {
                endedBy = frames[0].carried;
                return RAISED;
            }
            cameTo = frames[0].carried;
            return RETURNED;
        }

        /** Ends with VALUE, FAULT or TOO_LATE. */
        private Ending doProcedure(int level) {
            Frame frame = frames[level];
            Ending ending = doBlock(level, NONE);
            if (ending == Ending.TOO_LATE) {
                return ending;
            }
            if (ending == Ending.ON) {
                frame.carried = frame.account;
                ending = Ending.VALUE;
            }
            if (releaseEntered(frame)) {
                return raise(frame, MONITOR, ending == Ending.FAULT ? frame.carried : NONE);
            }
            return ending;
        }

        private boolean releaseEntered(Frame frame) {
            boolean any = false;
            for (int l = 0; l < LOCKS; l++) {
                if (frame.entered[l] > 0) {
                    locks.release(l, frame.entered[l]);
                    any = true;
                }
            }
            return any;
        }

        private Text textOf(int level) {
            return texts[frames[level].procedure];
        }

        /** Does the block behind its opener; the text's own block has NONE, the place before its first token. */
        private Ending doBlock(int level, int opener) {
            Text text = textOf(level);
            int end = opener == NONE ? text.size - 1 : text.ends[opener];
            int at = opener + 1;
            for (int done = 0; done < TOKENS && at < end; done++) {
                Ending ending = doItem(level, at);
                if (ending != Ending.ON) {
                    return ending;
                }
                at = text.behind(at);
            }
            return Ending.ON;
        }

        private Ending doItem(int level, int at) {
            if (begun >= STEPS) {
                return Ending.TOO_LATE;
            }
            begun++;
            Frame frame = frames[level];
            Text text = textOf(level);
            int a = text.numbers[at];
            switch (text.ops[at]) {
                case NOTE:
                    log.note(a);
                    return Ending.ON;
                case ADD:
                    frame.account += a;
                    return Ending.ON;
                case DIVIDE:
                    return doDivide(frame, a);
                case TIMES:
                    return doTimes(level, at, a);
                case BREAK:
                    return Ending.BROKEN;
                case NEXT:
                    return Ending.NEXT_TIME;
                case RETURN:
                    frame.carried = frame.account + a;
                    return Ending.VALUE;
                case RAISE:
                    return raise(frame, a, NONE);
                case WRAP:
                    return raise(frame, a, frame.caught);
                case TRY:
                    return doTry(level, at);
                case LOCK:
                    return doLock(level, at, a);
                case ENTER:
                    return doEnter(frame, a);
                case LEAVE:
                    return doLeave(frame, a);
                case CALL:
                    return doCall(level, a);
                case ABOVE:
                    return frame.account > a ? doBlock(level, at) : Ending.ON;
                case HELD:
                    frame.account = locks.isHeld(a) ? 1 : 0;
                    return Ending.ON;
                default:
                    return Ending.ON;
            }
        }

        private Ending raise(Frame frame, int kind, int cause) {
            frame.carried = faults.make(kind, cause);
            return Ending.FAULT;
        }

        private Ending doDivide(Frame frame, int a) {
            if (a == 0) {
                return raise(frame, ZERO, NONE);
            }
            frame.account /= a;
            return Ending.ON;
        }

        private Ending doTimes(int level, int at, int times) {
            for (int i = 0; i < times; i++) {
                Ending ending = doBlock(level, at);
                if (ending == Ending.BROKEN) {
                    return Ending.ON;
                }
                if (ending != Ending.ON && ending != Ending.NEXT_TIME) {
                    return ending;
                }
            }
            return Ending.ON;
        }

        private Ending doTry(int level, int at) {
            Text text = textOf(level);
            Ending ending = doBlock(level, at);
            boolean seeking = ending == Ending.FAULT;
            int part = text.ends[at] + 1;
            for (int i = 0; i < text.catchesOf(at) && part < text.size; i++) {
                if (seeking && catches(level, part)) {
                    seeking = false;
                    ending = doCatch(level, part);
                }
                part = text.ends[part] + 1;
            }
            if (ending == Ending.TOO_LATE || !text.hasLast(at) || part >= text.size) {
                return ending;
            }
            return doLast(level, part, ending);
        }

        private boolean catches(int level, int part) {
            return isOfKind(faults.kindOf(frames[level].carried), textOf(level).numbers[part]);
        }

        private Ending doCatch(int level, int part) {
            Frame frame = frames[level];
            int caughtAround = frame.caught;
            frame.caught = frame.carried;
            Ending ending = doBlock(level, part);
            frame.caught = caughtAround;
            return ending;
        }

        private Ending doLast(int level, int part, Ending before) {
            Frame frame = frames[level];
            // Inside of LAST a value or fault may come and be forgotten again, while the one before still counts.
            int carriedBefore = frame.carried;
            Ending ending = doBlock(level, part);
            if (ending != Ending.ON) {
                return ending;
            }
            frame.carried = carriedBefore;
            return before;
        }

        private Ending doLock(int level, int at, int l) {
            locks.hold(l);
            Ending ending = doBlock(level, at);
            locks.release(l, 1);
            return ending;
        }

        private Ending doEnter(Frame frame, int l) {
            frame.entered[l]++;
            locks.hold(l);
            return Ending.ON;
        }

        private Ending doLeave(Frame frame, int l) {
            if (frame.entered[l] <= 0) {
                return raise(frame, MONITOR, NONE);
            }
            frame.entered[l]--;
            locks.release(l, 1);
            return Ending.ON;
        }

        private Ending doCall(int level, int procedure) {
            Frame frame = frames[level];
            if (level >= CALLS) {
                return raise(frame, DEEP, NONE);
            }
            Frame inner = frames[level + 1];
            inner.begin(procedure, frame.account);
            Ending ending = doProcedure(level + 1);
            if (ending == Ending.FAULT) {
                frame.carried = inner.carried;
            }
            if (ending != Ending.VALUE) {
                return ending;
            }
            frame.account = inner.carried;
            return Ending.ON;
        }
    }
}
