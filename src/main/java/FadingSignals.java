/**
 * A hall of programs that send one another signals. ../shared/DOC.md tells what every call answers;
 * ../shared/LANGUAGE.md bounds the Java that may stand here.
 */
public final class FadingSignals {
    public static final int NONE = -1;

    private static final int BUFFER_ROOM = 700;
    private static final int APPENDED_BYTES = 20;
    private static final int MAX_KINDS = 8;
    private static final int MAX_PROGRAMS = 6;
    private static final int MAX_SEND_LINES = 12;
    private static final int MAX_ACTS = 4;
    private static final int MAX_CAP = 12;
    private static final int MAX_DEPTH = 4;
    private static final int MAX_HANDLER_TICKS = 20;
    private static final int MAX_LETTERS = 7;
    private static final int MAX_DIGITS = 3;
    private static final int MAX_TIRED = 99;
    private static final int MAX_VALUE = 999;
    private static final int MAX_TIME = 9999;
    private static final int MAX_TICKS = 200;
    private static final int MASK_TICKS = 50;
    private static final int TOLD_ENDS = 40;
    private static final int KEPT_CHANGES = 8;
    private static final int SLOTS = 2;

    private static final int DEPTH = 0;
    private static final int NEST = 1;
    private static final int REST = 2;
    private static final int CAP = 3;
    private static final int SETTINGS = 4;
    private static final int[] SETTING_LOW = {1, 0, 1, 1};
    private static final int[] SETTING_HIGH = {4, 50, 50, 12};

    private static final int URGENCY = 0;
    private static final int FADE = 1;
    private static final int KEEP = 2;
    private static final int KIND_NUMBERS = 3;
    private static final int[] KIND_LOW = {1, 0, 1};
    private static final int[] KIND_HIGH = {99, 20, 200};

    private static final int HANDLED = 0;
    private static final int FADED = 1;
    private static final int AGED = 2;
    private static final int CROWDED_OUT = 3;
    private static final int UNHANDLED = 4;
    private static final int DROPPED = 5;
    private static final int END_TYPES = 6;
    private static final String END_LETTERS = "hfaqnd";

    // The parts of a signal; the first five stand in the order in which queue() tells them.
    private static final int NUMBER = 0;
    private static final int KIND = 1;
    private static final int SENDER = 2;
    private static final int VALUE = 3;
    private static final int SENT_AT = 4;
    private static final int LEVEL = 5;
    private static final int LEFT = 6;
    private static final int SIGNAL_PARTS = 7;
    private static final int QUEUE_PARTS = 5;
    private static final int[] RUNNING_PARTS = {NUMBER, KIND, LEVEL, LEFT, VALUE};

    // The parts of an end, in the order in which end() tells them.
    private static final int END_NUMBER = 0;
    private static final int END_TYPE = 1;
    private static final int END_TIME = 2;
    private static final int END_PROGRAM = 3;
    private static final int END_KIND = 4;
    private static final int END_PARTS = 5;

    // What is counted for each program, in the order in which program() tells it from 4 on.
    private static final int SENT_TO = 0;
    private static final int SENT_BY = 1;
    private static final int HANDLED_HERE = 2;
    private static final int ENDED_OTHERWISE = 3;
    private static final int TALLIES = 4;

    private static final int RAISE = 0;
    private static final int MASK = 1;
    private static final int UNMASK = 2;
    private static final int DROP = 3;

    // The parts of an act, in the order in which handler() tells them.
    private static final int ACT_TYPE = 0;
    private static final int ACT_KIND = 1;
    private static final int ACT_PROGRAM = 2;
    private static final int ACT_PLUS = 3;
    private static final int ACT_PARTS = 4;

    private final byte[] buffer = new byte[BUFFER_ROOM];
    private int bufferSize;
    private int parseCode;
    private int parsePosition = NONE;

    private boolean loaded;
    private Plan plan = new Plan();
    private Hall hall = new Hall();
    // A text is read into these two, so that the hall stays if it has an error; what would be is
    // tried out in the spare hall, too.
    private Plan sparePlan = new Plan();
    private Hall spareHall = new Hall();

    // A ring of the halls before the latest changes; its rooms are made when they are first needed.
    private final Hall[] past = new Hall[KEPT_CHANGES];
    private int pastNext;
    private int pastCount;
    private final Hall[] slots = new Hall[SLOTS];
    private final boolean[] slotFilled = new boolean[SLOTS];

    private final Output output = new Output();

    /** Makes an object without a hall and with an empty input buffer. */
    public FadingSignals() {
    }

    // ---- input

    public int append(int a, int b, int c, int d, int e) {
        if (bufferSize > BUFFER_ROOM - APPENDED_BYTES) {
            return NONE;
        }
        appendWord(a);
        appendWord(b);
        appendWord(c);
        appendWord(d);
        appendWord(e);
        return bufferSize;
    }

    private void appendWord(int word) {
        for (int shift = 24; shift >= 0 && bufferSize < BUFFER_ROOM; shift -= 8) {
            buffer[bufferSize] = (byte) (word >> shift);
            bufferSize++;
        }
    }

    public int load(int n) throws IndexOutOfBoundsException, IllegalArgumentException {
        needIndex(n >= 0 && n <= bufferSize);
        Parser parser = new Parser(buffer, n, sparePlan, spareHall);
        parser.readText();
        bufferSize = 0;
        parseCode = parser.error;
        parsePosition = parser.errorAt;
        needArgument(parseCode == 0);
        takeSpare();
        return plan.programs.size;
    }

    private void takeSpare() {
        Plan oldPlan = plan;
        plan = sparePlan;
        sparePlan = oldPlan;
        Hall oldHall = hall;
        hall = spareHall;
        spareHall = oldHall;
        loaded = true;
        pastCount = 0;
        for (int slot = 0; slot < SLOTS; slot++) {
            slotFilled[slot] = false;
        }
    }

    public int parseError() {
        return parseCode;
    }

    public int errorPosition() {
        return parsePosition;
    }

    public int buffered() {
        return bufferSize;
    }

    public int find(boolean kind, int n) throws IllegalStateException, IndexOutOfBoundsException {
        needHall();
        needIndex(n >= 0 && n <= bufferSize);
        bufferSize = 0;
        Names names = kind ? plan.kinds : plan.programs;
        return names.placeOf(buffer, 0, n);
    }

    // ---- what there is

    public int count(int what) throws IllegalStateException, IllegalArgumentException {
        needHall();
        needArgument(what >= 0 && what <= 13);
        switch (what) {
            case 0:
                return plan.kinds.size;
            case 1:
                return plan.programs.size;
            case 2:
                return plan.handlersInAll();
            case 3:
                return hall.time;
            case 4:
                return hall.sent;
            case 5:
                return hall.queues.total();
            case 6:
                return hall.stacks.total();
            case 13:
                return hall.told();
            default:
                return hall.endedBy(what - 7);
        }
    }

    public int setting(int what) throws IllegalStateException, IllegalArgumentException {
        needHall();
        needArgument(what >= 0 && what < SETTINGS);
        return hall.settingOf(what);
    }

    public int kind(int kind, int what)
            throws IllegalStateException, IndexOutOfBoundsException, IllegalArgumentException {
        needHall();
        needKind(kind);
        needArgument(what >= 0 && what < KIND_NUMBERS);
        return hall.kindNumber(kind, what);
    }

    public int program(int program, int what)
            throws IllegalStateException, IndexOutOfBoundsException, IllegalArgumentException {
        needHall();
        needProgram(program);
        needArgument(what >= 0 && what <= 7);
        switch (what) {
            case 0:
                return hall.queues.sizeOf(program);
            case 1:
                return hall.stacks.sizeOf(program);
            case 2:
                return hall.maskOf(program);
            case 3:
                return plan.handlersOf(program);
            default:
                return hall.tally(program, what - 4);
        }
    }

    public int handler(int program, int kind, int what)
            throws IllegalStateException, IndexOutOfBoundsException, IllegalArgumentException {
        needHall();
        needProgram(program);
        needKind(kind);
        needArgument(what >= 0 && what < 10 * (MAX_ACTS + 1));
        if (plan.ticksOf(program, kind) == 0) {
            return NONE;
        }
        if (what == 0) {
            return plan.ticksOf(program, kind);
        }
        if (what == 1) {
            return plan.actsOf(program, kind);
        }
        int act = what / 10 - 1;
        int part = what % 10;
        if (act < 0 || act >= plan.actsOf(program, kind) || part >= ACT_PARTS) {
            return NONE;
        }
        return plan.actPart(program, kind, act, part);
    }

    public int urgency(int program, int kind) throws IllegalStateException, IndexOutOfBoundsException {
        needHall();
        needProgram(program);
        needKind(kind);
        return hall.urgencyOf(program, kind);
    }

    public int tiredness(int program, int kind) throws IllegalStateException, IndexOutOfBoundsException {
        needHall();
        needProgram(program);
        needKind(kind);
        return hall.tiredOf(program, kind);
    }

    public int queue(int program, int index, int what)
            throws IllegalStateException, IndexOutOfBoundsException, IllegalArgumentException {
        needHall();
        needProgram(program);
        needIndex(index >= 0 && index < hall.queues.sizeOf(program));
        needArgument(what >= 0 && what < QUEUE_PARTS);
        return hall.queues.part(program, hall.placeInOrder(program, index), what);
    }

    public int running(int program, int index, int what)
            throws IllegalStateException, IndexOutOfBoundsException, IllegalArgumentException {
        needHall();
        needProgram(program);
        int size = hall.stacks.sizeOf(program);
        needIndex(index >= 0 && index < size);
        needArgument(what >= 0 && what < RUNNING_PARTS.length);
        return hall.stacks.part(program, size - 1 - index, RUNNING_PARTS[what]);
    }

    public int end(int index, int what)
            throws IllegalStateException, IndexOutOfBoundsException, IllegalArgumentException {
        needHall();
        needIndex(index >= 0 && index < hall.told());
        needArgument(what >= 0 && what < END_PARTS);
        return hall.endPart(index, what);
    }

    public int whereIs(int signal) throws IllegalStateException, IndexOutOfBoundsException {
        needHall();
        needSignal(signal);
        int program = hall.queues.programOf(signal);
        if (program != NONE) {
            return program;
        }
        program = hall.stacks.programOf(signal);
        if (program != NONE) {
            return 10 + program;
        }
        int type = hall.toldEndOf(signal);
        return type == NONE ? NONE : 20 + type;
    }

    // ---- looks

    public int next(int program) throws IllegalStateException, IndexOutOfBoundsException {
        needHall();
        needProgram(program);
        int index = hall.firstUnmasked(program);
        return index == NONE ? NONE : hall.queues.part(program, index, NUMBER);
    }

    public int busiest() throws IllegalStateException {
        needHall();
        int best = NONE;
        int most = NONE;
        for (int program = 0; program < plan.programs.size; program++) {
            int size = hall.queues.sizeOf(program);
            if (size > most) {
                most = size;
                best = program;
            }
        }
        return best;
    }

    public int tiredest(int program) throws IllegalStateException, IndexOutOfBoundsException {
        needHall();
        needProgram(program);
        int best = NONE;
        int most = NONE;
        for (int kind = 0; kind < plan.kinds.size; kind++) {
            int tired = hall.tiredOf(program, kind);
            if (tired > most) {
                most = tired;
                best = kind;
            }
        }
        return best;
    }

    public int oldest() throws IllegalStateException {
        needHall();
        int oldest = NONE;
        for (int program = 0; program < plan.programs.size; program++) {
            // A queue is held by numbers, so its first row is its oldest signal.
            if (hall.queues.sizeOf(program) > 0) {
                int number = hall.queues.part(program, 0, NUMBER);
                if (oldest == NONE || number < oldest) {
                    oldest = number;
                }
            }
        }
        return oldest;
    }

    public int loser(int program, int kind) throws IllegalStateException, IndexOutOfBoundsException {
        needHall();
        needProgram(program);
        needKind(kind);
        if (hall.queues.sizeOf(program) < hall.settingOf(CAP)) {
            return NONE;
        }
        int last = hall.lastInOrder(program);
        int lastKind = hall.queues.part(program, last, KIND);
        // At the same urgency the new signal is behind, as its number is the greatest.
        if (hall.urgencyOf(program, kind) <= hall.urgencyOf(program, lastKind)) {
            return hall.sent;
        }
        return hall.queues.part(program, last, NUMBER);
    }

    public double meanWait() throws IllegalStateException {
        needHall();
        int handled = hall.endedBy(HANDLED);
        return handled > 0 ? (double) hall.waited / (double) handled : 0.0;
    }

    public float handledShare() throws IllegalStateException {
        needHall();
        int all = hall.endTotal;
        return all > 0 ? (float) hall.endedBy(HANDLED) / (float) all : 0.0f;
    }

    public int raisers(int kind) throws IllegalStateException, IndexOutOfBoundsException {
        needHall();
        needKind(kind);
        int raisers = 0;
        for (int program = 0; program < plan.programs.size; program++) {
            if (plan.raises(program, kind)) {
                raisers |= 1 << program;
            }
        }
        return raisers;
    }

    // ---- what would be

    public int idleIn(int program) throws IllegalStateException, IndexOutOfBoundsException {
        needHall();
        needProgram(program);
        return ticksUntilIdle(program, program + 1);
    }

    public int calmIn() throws IllegalStateException {
        needHall();
        return ticksUntilIdle(0, plan.programs.size);
    }

    private int ticksUntilIdle(int firstProgram, int behindLast) {
        spareHall.copyFrom(hall);
        for (int ticks = 0; ticks < MAX_TICKS; ticks++) {
            if (spareHall.areIdle(firstProgram, behindLast)) {
                return ticks;
            }
            spareHall.passTick(plan);
        }
        return spareHall.areIdle(firstProgram, behindLast) ? MAX_TICKS : NONE;
    }

    public int endIn(int signal) throws IllegalStateException, IndexOutOfBoundsException {
        needHall();
        needSignal(signal);
        return ticksUntilEnd(signal);
    }

    public int endOf(int signal) throws IllegalStateException, IndexOutOfBoundsException {
        needHall();
        needSignal(signal);
        return ticksUntilEnd(signal) == NONE ? NONE : spareHall.watchedEnd;
    }

    private int ticksUntilEnd(int signal) {
        if (hall.queues.programOf(signal) == NONE && hall.stacks.programOf(signal) == NONE) {
            return NONE;
        }
        spareHall.copyFrom(hall);
        spareHall.watched = signal;
        for (int ticks = 1; ticks <= MAX_TICKS; ticks++) {
            spareHall.passTick(plan);
            if (spareHall.watchedEnd != NONE) {
                return ticks;
            }
        }
        return NONE;
    }

    public int endsIn(int end, int ticks) throws IllegalStateException, IllegalArgumentException {
        needHall();
        needArgument(end >= 0 && end < END_TYPES);
        needArgument(ticks >= 0 && ticks <= MAX_TICKS);
        passInSpare(ticks);
        return spareHall.endedBy(end) - hall.endedBy(end);
    }

    public int urgencyIn(int program, int kind, int ticks)
            throws IllegalStateException, IndexOutOfBoundsException, IllegalArgumentException {
        needHall();
        needProgram(program);
        needKind(kind);
        needArgument(ticks >= 0 && ticks <= MAX_TICKS);
        passInSpare(ticks);
        return spareHall.urgencyOf(program, kind);
    }

    public int sentIn(int ticks) throws IllegalStateException, IllegalArgumentException {
        needHall();
        needArgument(ticks >= 0 && ticks <= MAX_TICKS);
        passInSpare(ticks);
        return spareHall.sent - hall.sent;
    }

    private void passInSpare(int ticks) {
        spareHall.copyFrom(hall);
        for (int i = 0; i < ticks; i++) {
            spareHall.passTick(plan);
        }
    }

    public int bestMask(int program) throws IllegalStateException, IndexOutOfBoundsException {
        needHall();
        needProgram(program);
        int best = NONE;
        int fewest = 0;
        for (int kind = 0; kind < plan.kinds.size; kind++) {
            if (!hall.isMasked(program, kind)) {
                int others = othersIfMasked(program, kind);
                if (best == NONE || others < fewest) {
                    fewest = others;
                    best = kind;
                }
            }
        }
        return best;
    }

    private int othersIfMasked(int program, int kind) {
        spareHall.copyFrom(hall);
        spareHall.putMask(program, kind, true);
        for (int ticks = 0; ticks < MASK_TICKS; ticks++) {
            spareHall.passTick(plan);
        }
        return spareHall.tally(program, ENDED_OTHERWISE);
    }

    // ---- texts

    public int writeQueue(int program) throws IllegalStateException, IndexOutOfBoundsException {
        needHall();
        needProgram(program);
        output.restart();
        for (int place = 0; place < hall.queues.sizeOf(program); place++) {
            int index = hall.placeInOrder(program, place);
            if (place > 0) {
                output.putByte(' ');
            }
            output.putNumber(hall.queues.part(program, index, NUMBER));
            output.putByte('.');
            output.putName(plan.kinds, hall.queues.part(program, index, KIND));
            output.putByte('=');
            output.putNumber(hall.queues.part(program, index, VALUE));
        }
        return output.length;
    }

    public int writeStack(int program) throws IllegalStateException, IndexOutOfBoundsException {
        needHall();
        needProgram(program);
        output.restart();
        int top = hall.stacks.sizeOf(program) - 1;
        for (int index = top; index >= 0; index--) {
            if (index < top) {
                output.putByte('>');
            }
            output.putName(plan.kinds, hall.stacks.part(program, index, KIND));
            output.putByte(':');
            output.putNumber(hall.stacks.part(program, index, LEFT));
        }
        return output.length;
    }

    public int writeEnds() throws IllegalStateException {
        needHall();
        output.restart();
        for (int index = 0; index < hall.told(); index++) {
            if (index > 0) {
                output.putByte(' ');
            }
            output.putNumber(hall.endPart(index, END_NUMBER));
            output.putByte(endLetter(hall.endPart(index, END_TYPE)));
        }
        return output.length;
    }

    private static char endLetter(int type) {
        return type >= 0 && type < END_LETTERS.length() ? END_LETTERS.charAt(type) : ' ';
    }

    public int textByte(int i) throws IndexOutOfBoundsException {
        needIndex(i >= 0 && i < output.length);
        return output.byteAt(i);
    }

    // ---- changes

    public int tick(int ticks) throws IllegalStateException, IllegalArgumentException {
        needHall();
        needArgument(ticks >= 1 && ticks <= MAX_TICKS);
        needArgument(hall.time <= MAX_TIME - ticks);
        remember();
        int before = hall.endTotal;
        for (int i = 0; i < ticks; i++) {
            hall.passTick(plan);
        }
        return hall.endTotal - before;
    }

    public int send(int program, int kind, int value)
            throws IllegalStateException, IndexOutOfBoundsException, IllegalArgumentException {
        needHall();
        needProgram(program);
        needKind(kind);
        needArgument(value >= 0 && value <= MAX_VALUE);
        remember();
        return hall.sendSignal(program, kind, NONE, value);
    }

    public boolean mask(int program, int kind, boolean is)
            throws IllegalStateException, IndexOutOfBoundsException {
        needHall();
        needProgram(program);
        needKind(kind);
        remember();
        boolean was = hall.isMasked(program, kind);
        hall.putMask(program, kind, is);
        return was;
    }

    public int drop(int signal) throws IllegalStateException, IndexOutOfBoundsException {
        needHall();
        needSignal(signal);
        remember();
        if (hall.dropFrom(hall.queues, signal)) {
            return 0;
        }
        return hall.dropFrom(hall.stacks, signal) ? 1 : 2;
    }

    public int clear(int program) throws IllegalStateException, IndexOutOfBoundsException {
        needHall();
        needProgram(program);
        remember();
        return hall.dropAll(program);
    }

    public int refresh(int program) throws IllegalStateException, IndexOutOfBoundsException {
        needHall();
        needProgram(program);
        remember();
        return hall.takeTirednessAway(program);
    }

    public int setKind(int kind, int what, int value)
            throws IllegalStateException, IndexOutOfBoundsException, IllegalArgumentException {
        needHall();
        needKind(kind);
        needArgument(what >= 0 && what < KIND_NUMBERS);
        needArgument(value >= KIND_LOW[what] && value <= KIND_HIGH[what]);
        remember();
        int previous = hall.kindNumber(kind, what);
        hall.putKindNumber(kind, what, value);
        return previous;
    }

    public int set(int what, int value) throws IllegalStateException, IllegalArgumentException {
        needHall();
        needArgument(what >= 0 && what < CAP);
        needArgument(value >= SETTING_LOW[what] && value <= SETTING_HIGH[what]);
        remember();
        int previous = hall.settingOf(what);
        hall.putSetting(what, value);
        return previous;
    }

    public int undo() throws IllegalStateException {
        needState(pastCount > 0);
        pastCount--;
        pastNext = pastNext > 0 ? pastNext - 1 : KEPT_CHANGES - 1;
        hall.copyFrom(roomAt(past, pastNext));
        return pastCount;
    }

    public int undoable() {
        return pastCount;
    }

    public int save(int slot) throws IllegalStateException, IndexOutOfBoundsException {
        needHall();
        needIndex(slot >= 0 && slot < SLOTS);
        roomAt(slots, slot).copyFrom(hall);
        slotFilled[slot] = true;
        return hall.time;
    }

    public int restore(int slot) throws IndexOutOfBoundsException, IllegalStateException {
        needIndex(slot >= 0 && slot < SLOTS);
        needState(slotFilled[slot]);
        hall.copyFrom(roomAt(slots, slot));
        pastCount = 0;
        return hall.time;
    }

    private void remember() {
        roomAt(past, pastNext).copyFrom(hall);
        pastNext = pastNext < KEPT_CHANGES - 1 ? pastNext + 1 : 0;
        pastCount = pastCount < KEPT_CHANGES ? pastCount + 1 : KEPT_CHANGES;
    }

    /** Tells the hall that stands at a place of a row, and makes it if the place is used for the first time. */
    private static Hall roomAt(Hall[] row, int index) {
        if (index < 0 || index >= row.length) {
            return new Hall();
        }
        Hall room = row[index];
        if (room == null) {
            room = new Hall();
            row[index] = room;
        }
        return room;
    }

    private void needHall() {
        if (!loaded) {
            throw new IllegalStateException("no text was loaded");
        }
    }

    private void needKind(int kind) {
        needIndex(kind >= 0 && kind < plan.kinds.size);
    }

    private void needProgram(int program) {
        needIndex(program >= 0 && program < plan.programs.size);
    }

    private void needSignal(int signal) {
        needIndex(signal >= 0 && signal < hall.sent);
    }

    private static void needState(boolean fine) {
        if (!fine) {
            throw new IllegalStateException("there is nothing to go back to");
        }
    }

    private static void needIndex(boolean fine) {
        if (!fine) {
            throw new IndexOutOfBoundsException("there is no such kind, program, signal, slot or index");
        }
    }

    private static void needArgument(boolean fine) {
        if (!fine) {
            throw new IllegalArgumentException("an argument is out of its range, or the text has an error");
        }
    }

    /** The names of the kinds, or of the programs, in the order of their numbers. */
    private static final class Names {
        private final int[] lengths = new int[MAX_KINDS];
        private final byte[] letters = new byte[MAX_KINDS * MAX_LETTERS];
        private int size;

        int placeOf(byte[] bytes, int from, int length) {
            for (int index = 0; index < size; index++) {
                if (isAt(index, bytes, from, length)) {
                    return index;
                }
            }
            return NONE;
        }

        private boolean isAt(int index, byte[] bytes, int from, int length) {
            if (index < 0 || index >= lengths.length || lengths[index] != length) {
                return false;
            }
            int first = index * MAX_LETTERS;
            if (first + length > letters.length || from < 0 || from > bytes.length - length) {
                return false;
            }
            for (int i = 0; i < length; i++) {
                if (letters[first + i] != bytes[from + i]) {
                    return false;
                }
            }
            return true;
        }

        int lengthOf(int index) {
            return index >= 0 && index < size && index < lengths.length ? lengths[index] : 0;
        }

        byte letterOf(int index, int i) {
            int at = index * MAX_LETTERS + i;
            return at >= 0 && at < letters.length ? letters[at] : 0;
        }

        void add(byte[] bytes, int from, int length) {
            if (size >= lengths.length || length > MAX_LETTERS || from < 0 || from > bytes.length - length) {
                return;
            }
            lengths[size] = length;
            for (int i = 0; i < length; i++) {
                letters[size * MAX_LETTERS + i] = bytes[from + i];
            }
            size++;
        }
    }

    /** What a text lays down for good: the names and the handlers with their acts. */
    private static final class Plan {
        private final Names kinds = new Names();
        private final Names programs = new Names();
        private final int[] ticks = new int[MAX_PROGRAMS * MAX_KINDS];
        private final int[] actCounts = new int[MAX_PROGRAMS * MAX_KINDS];
        private final int[] acts = new int[MAX_PROGRAMS * MAX_KINDS * MAX_ACTS * ACT_PARTS];

        void empty() {
            kinds.size = 0;
            programs.size = 0;
            for (int i = 0; i < ticks.length; i++) {
                ticks[i] = 0;
            }
            for (int i = 0; i < actCounts.length; i++) {
                actCounts[i] = 0;
            }
        }

        /** Tells the ticks of a handler; 0 if there is none. */
        int ticksOf(int program, int kind) {
            int at = program * MAX_KINDS + kind;
            return at >= 0 && at < ticks.length ? ticks[at] : 0;
        }

        int actsOf(int program, int kind) {
            int at = program * MAX_KINDS + kind;
            return at >= 0 && at < actCounts.length ? actCounts[at] : 0;
        }

        int actPart(int program, int kind, int act, int part) {
            int at = ((program * MAX_KINDS + kind) * MAX_ACTS + act) * ACT_PARTS + part;
            return at >= 0 && at < acts.length ? acts[at] : NONE;
        }

        void addHandler(int program, int kind, int handlerTicks) {
            int at = program * MAX_KINDS + kind;
            if (at >= 0 && at < ticks.length) {
                ticks[at] = handlerTicks;
            }
        }

        void addAct(int program, int kind, int type, int actKind, int actProgram, int plus) {
            int handler = program * MAX_KINDS + kind;
            if (handler < 0 || handler >= actCounts.length) {
                return;
            }
            int at = (handler * MAX_ACTS + actCounts[handler]) * ACT_PARTS;
            if (at < 0 || at + ACT_PLUS >= acts.length) {
                return;
            }
            acts[at + ACT_TYPE] = type;
            acts[at + ACT_KIND] = actKind;
            acts[at + ACT_PROGRAM] = actProgram;
            acts[at + ACT_PLUS] = plus;
            actCounts[handler]++;
        }

        int handlersOf(int program) {
            int handlers = 0;
            for (int kind = 0; kind < kinds.size; kind++) {
                if (ticksOf(program, kind) > 0) {
                    handlers++;
                }
            }
            return handlers;
        }

        int handlersInAll() {
            int handlers = 0;
            for (int program = 0; program < programs.size; program++) {
                handlers += handlersOf(program);
            }
            return handlers;
        }

        boolean raises(int program, int raised) {
            for (int kind = 0; kind < kinds.size; kind++) {
                for (int act = 0; act < actsOf(program, kind); act++) {
                    if (actPart(program, kind, act, ACT_TYPE) == RAISE
                            && actPart(program, kind, act, ACT_KIND) == raised) {
                        return true;
                    }
                }
            }
            return false;
        }
    }

    /**
     * A list of signals for each program. The queues hold them by numbers (their order is found when it is
     * asked, as it changes with tiredness); the stacks hold them from the bottom up.
     */
    private static final class Lists {
        private final int room;
        private final int[] sizes = new int[MAX_PROGRAMS];
        private final int[] cells;

        Lists(int rows) {
            room = rows > 0 && rows <= MAX_CAP + 1 ? rows : MAX_CAP + 1;
            cells = new int[MAX_PROGRAMS * room * SIGNAL_PARTS];
        }

        void empty() {
            for (int program = 0; program < sizes.length; program++) {
                sizes[program] = 0;
            }
        }

        void copyFrom(Lists other) {
            System.arraycopy(other.sizes, 0, sizes, 0, Math.min(other.sizes.length, sizes.length));
            System.arraycopy(other.cells, 0, cells, 0, Math.min(other.cells.length, cells.length));
        }

        int sizeOf(int program) {
            return program >= 0 && program < sizes.length ? sizes[program] : 0;
        }

        int total() {
            int total = 0;
            for (int program = 0; program < sizes.length; program++) {
                total += sizes[program];
            }
            return total;
        }

        int part(int program, int index, int part) {
            int at = (program * room + index) * SIGNAL_PARTS + part;
            return at >= 0 && at < cells.length ? cells[at] : 0;
        }

        void put(int program, int index, int part, int value) {
            int at = (program * room + index) * SIGNAL_PARTS + part;
            if (at >= 0 && at < cells.length) {
                cells[at] = value;
            }
        }

        /** Adds a row behind the last one and tells its index; NONE if there is no room. */
        int addRow(int program) {
            if (program < 0 || program >= sizes.length || sizes[program] >= room) {
                return NONE;
            }
            sizes[program]++;
            return sizes[program] - 1;
        }

        void removeRow(int program, int index) {
            if (program < 0 || program >= sizes.length || index < 0 || index >= sizes[program]) {
                return;
            }
            int from = (program * room + index + 1) * SIGNAL_PARTS;
            int to = (program * room + sizes[program]) * SIGNAL_PARTS;
            for (int at = from; at < to && at < cells.length; at++) {
                cells[at - SIGNAL_PARTS] = cells[at];
            }
            sizes[program]--;
        }

        int indexOf(int program, int signal) {
            for (int index = 0; index < sizeOf(program); index++) {
                if (part(program, index, NUMBER) == signal) {
                    return index;
                }
            }
            return NONE;
        }

        int programOf(int signal) {
            for (int program = 0; program < sizes.length; program++) {
                if (indexOf(program, signal) != NONE) {
                    return program;
                }
            }
            return NONE;
        }
    }

    /** What changes in a hall: a copy of it is all that undo, restore and what would be need. */
    private static final class Hall {
        private final int[] settings = new int[SETTINGS];
        private final int[] kindNumbers = new int[MAX_KINDS * KIND_NUMBERS];
        private final int[] tired = new int[MAX_PROGRAMS * MAX_KINDS];
        private final int[] masks = new int[MAX_PROGRAMS];
        private final int[] tallies = new int[MAX_PROGRAMS * TALLIES];
        private final Lists queues = new Lists(MAX_CAP + 1);
        private final Lists stacks = new Lists(MAX_DEPTH);
        private final int[] endCounts = new int[END_TYPES];
        // A ring of the latest ends.
        private final int[] ends = new int[TOLD_ENDS * END_PARTS];
        private int endTotal;
        private int time;
        private int sent;
        private int waited;
        private int watched = NONE;
        private int watchedEnd = NONE;

        void empty() {
            fillWithZeros(settings);
            fillWithZeros(kindNumbers);
            fillWithZeros(tired);
            fillWithZeros(masks);
            fillWithZeros(tallies);
            fillWithZeros(endCounts);
            queues.empty();
            stacks.empty();
            endTotal = 0;
            time = 0;
            sent = 0;
            waited = 0;
            watched = NONE;
            watchedEnd = NONE;
        }

        private static void fillWithZeros(int[] row) {
            for (int i = 0; i < row.length; i++) {
                row[i] = 0;
            }
        }

        void copyFrom(Hall other) {
            copyRow(other.settings, settings);
            copyRow(other.kindNumbers, kindNumbers);
            copyRow(other.tired, tired);
            copyRow(other.masks, masks);
            copyRow(other.tallies, tallies);
            copyRow(other.endCounts, endCounts);
            copyRow(other.ends, ends);
            queues.copyFrom(other.queues);
            stacks.copyFrom(other.stacks);
            endTotal = other.endTotal;
            time = other.time;
            sent = other.sent;
            waited = other.waited;
            watched = NONE;
            watchedEnd = NONE;
        }

        private static void copyRow(int[] from, int[] to) {
            System.arraycopy(from, 0, to, 0, Math.min(from.length, to.length));
        }

        int settingOf(int what) {
            return what >= 0 && what < settings.length ? settings[what] : 0;
        }

        void putSetting(int what, int value) {
            if (what >= 0 && what < settings.length) {
                settings[what] = value;
            }
        }

        int kindNumber(int kind, int what) {
            int at = kind * KIND_NUMBERS + what;
            return at >= 0 && at < kindNumbers.length ? kindNumbers[at] : 0;
        }

        void putKindNumber(int kind, int what, int value) {
            int at = kind * KIND_NUMBERS + what;
            if (at >= 0 && at < kindNumbers.length) {
                kindNumbers[at] = value;
            }
        }

        int tiredOf(int program, int kind) {
            int at = program * MAX_KINDS + kind;
            return at >= 0 && at < tired.length ? tired[at] : 0;
        }

        int urgencyOf(int program, int kind) {
            if (program < 0 || program >= MAX_PROGRAMS || kind < 0 || kind >= MAX_KINDS) {
                return 0;
            }
            int urgency = kindNumbers[kind * KIND_NUMBERS + URGENCY] - tired[program * MAX_KINDS + kind];
            return urgency > 0 ? urgency : 0;
        }

        int maskOf(int program) {
            return program >= 0 && program < masks.length ? masks[program] : 0;
        }

        boolean isMasked(int program, int kind) {
            return (maskOf(program) >> kind & 1) != 0;
        }

        void putMask(int program, int kind, boolean is) {
            if (program >= 0 && program < masks.length) {
                int bit = 1 << kind;
                masks[program] = is ? masks[program] | bit : masks[program] & ~bit;
            }
        }

        int tally(int program, int what) {
            int at = program * TALLIES + what;
            return at >= 0 && at < tallies.length ? tallies[at] : 0;
        }

        private void addToTally(int program, int what) {
            int at = program * TALLIES + what;
            if (at >= 0 && at < tallies.length) {
                tallies[at]++;
            }
        }

        int endedBy(int type) {
            return type >= 0 && type < endCounts.length ? endCounts[type] : 0;
        }

        int told() {
            return endTotal < TOLD_ENDS ? endTotal : TOLD_ENDS;
        }

        int endPart(int index, int part) {
            int at = (endTotal - 1 - index) % TOLD_ENDS * END_PARTS + part;
            return at >= 0 && at < ends.length ? ends[at] : NONE;
        }

        int toldEndOf(int signal) {
            for (int index = 0; index < told(); index++) {
                if (endPart(index, END_NUMBER) == signal) {
                    return endPart(index, END_TYPE);
                }
            }
            return NONE;
        }

        boolean areIdle(int firstProgram, int behindLast) {
            for (int program = firstProgram; program < behindLast; program++) {
                if (queues.sizeOf(program) > 0 || stacks.sizeOf(program) > 0) {
                    return false;
                }
            }
            return true;
        }

        /** Tells the index in the queue of the first signal in the order whose kind is not masked. */
        int firstUnmasked(int program) {
            int first = NONE;
            int greatest = NONE;
            for (int index = 0; index < queues.sizeOf(program); index++) {
                int kind = queues.part(program, index, KIND);
                int urgency = urgencyOf(program, kind);
                if (urgency > greatest && !isMasked(program, kind)) {
                    greatest = urgency;
                    first = index;
                }
            }
            return first;
        }

        int lastInOrder(int program) {
            int last = NONE;
            int least = MAX_VALUE;
            for (int index = 0; index < queues.sizeOf(program); index++) {
                int urgency = urgencyOf(program, queues.part(program, index, KIND));
                if (urgency <= least) {
                    least = urgency;
                    last = index;
                }
            }
            return last;
        }

        /** Tells the index in the queue of the signal that has so many others before it in the order. */
        int placeInOrder(int program, int place) {
            int size = queues.sizeOf(program);
            for (int index = 0; index < size; index++) {
                int before = 0;
                for (int other = 0; other < size; other++) {
                    if (comesBefore(program, other, index)) {
                        before++;
                    }
                }
                if (before == place) {
                    return index;
                }
            }
            return NONE;
        }

        private boolean comesBefore(int program, int one, int other) {
            int ofOne = urgencyOf(program, queues.part(program, one, KIND));
            int ofOther = urgencyOf(program, queues.part(program, other, KIND));
            return ofOne > ofOther || ofOne == ofOther && one < other;
        }

        int sendSignal(int to, int kind, int from, int value) {
            int index = queues.addRow(to);
            if (index == NONE) {
                return NONE;
            }
            int number = sent;
            sent++;
            queues.put(to, index, NUMBER, number);
            queues.put(to, index, KIND, kind);
            queues.put(to, index, SENDER, from);
            queues.put(to, index, VALUE, value);
            queues.put(to, index, SENT_AT, time);
            addToTally(to, SENT_TO);
            if (from != NONE) {
                addToTally(from, SENT_BY);
            }
            if (queues.sizeOf(to) > settings[CAP]) {
                endSignal(queues, to, lastInOrder(to), CROWDED_OUT);
            }
            return number;
        }

        /** Takes a signal out of a queue or a stack and writes its end down. */
        private void endSignal(Lists list, int program, int index, int type) {
            int number = list.part(program, index, NUMBER);
            int at = endTotal % TOLD_ENDS * END_PARTS;
            if (at < 0 || at + END_KIND >= ends.length || type < 0 || type >= endCounts.length) {
                return;
            }
            ends[at + END_NUMBER] = number;
            ends[at + END_TYPE] = type;
            ends[at + END_TIME] = time;
            ends[at + END_PROGRAM] = program;
            ends[at + END_KIND] = list.part(program, index, KIND);
            endTotal++;
            endCounts[type]++;
            addToTally(program, type == HANDLED ? HANDLED_HERE : ENDED_OTHERWISE);
            if (type == HANDLED) {
                waited += time - list.part(program, index, SENT_AT);
            }
            if (number == watched) {
                watchedEnd = type;
            }
            list.removeRow(program, index);
        }

        boolean dropFrom(Lists list, int signal) {
            int program = list.programOf(signal);
            if (program == NONE) {
                return false;
            }
            endSignal(list, program, list.indexOf(program, signal), DROPPED);
            return true;
        }

        int dropAll(int program) {
            int size = queues.sizeOf(program);
            for (int i = 0; i < size; i++) {
                endSignal(queues, program, 0, DROPPED);
            }
            return size;
        }

        private void dropKind(int program, int kind) {
            int index = 0;
            for (int rows = queues.sizeOf(program); rows > 0; rows--) {
                if (queues.part(program, index, KIND) == kind) {
                    endSignal(queues, program, index, DROPPED);
                } else {
                    index++;
                }
            }
        }

        int takeTirednessAway(int program) {
            int sum = 0;
            for (int kind = 0; kind < MAX_KINDS; kind++) {
                int at = program * MAX_KINDS + kind;
                if (at >= 0 && at < tired.length) {
                    sum += tired[at];
                    tired[at] = 0;
                }
            }
            return sum;
        }

        void passTick(Plan plan) {
            time++;
            int rest = settings[REST];
            if (rest > 0 && time % rest == 0) {
                recover();
            }
            for (int program = 0; program < plan.programs.size; program++) {
                loseAged(program);
                beginNext(plan, program);
                workOnTop(plan, program);
            }
        }

        private void recover() {
            for (int i = 0; i < tired.length; i++) {
                if (tired[i] > 0) {
                    tired[i]--;
                }
            }
        }

        private void loseAged(int program) {
            int index = 0;
            for (int rows = queues.sizeOf(program); rows > 0; rows--) {
                int age = time - queues.part(program, index, SENT_AT);
                if (age >= kindNumber(queues.part(program, index, KIND), KEEP)) {
                    endSignal(queues, program, index, AGED);
                } else {
                    index++;
                }
            }
        }

        private void beginNext(Plan plan, int program) {
            // Each look but the last one takes a signal out of the queue.
            for (int looks = 0; looks <= MAX_CAP; looks++) {
                int index = firstUnmasked(program);
                if (index == NONE) {
                    return;
                }
                int kind = queues.part(program, index, KIND);
                int urgency = urgencyOf(program, kind);
                if (!mayBegin(program, urgency)) {
                    return;
                }
                int ticks = plan.ticksOf(program, kind);
                if (urgency > 0 && ticks > 0) {
                    pushHandler(program, index, urgency, ticks);
                    return;
                }
                endSignal(queues, program, index, urgency == 0 ? FADED : UNHANDLED);
            }
        }

        private boolean mayBegin(int program, int urgency) {
            int size = stacks.sizeOf(program);
            return size == 0
                    || size < settings[DEPTH] && urgency > stacks.part(program, size - 1, LEVEL) + settings[NEST];
        }

        private void pushHandler(int program, int index, int level, int ticks) {
            int top = stacks.addRow(program);
            if (top == NONE) {
                return;
            }
            for (int part = 0; part < QUEUE_PARTS; part++) {
                stacks.put(program, top, part, queues.part(program, index, part));
            }
            stacks.put(program, top, LEVEL, level);
            stacks.put(program, top, LEFT, ticks);
            queues.removeRow(program, index);
        }

        private void workOnTop(Plan plan, int program) {
            int top = stacks.sizeOf(program) - 1;
            if (top < 0) {
                return;
            }
            int left = stacks.part(program, top, LEFT) - 1;
            stacks.put(program, top, LEFT, left);
            if (left > 0) {
                return;
            }
            int kind = stacks.part(program, top, KIND);
            int value = stacks.part(program, top, VALUE);
            tire(program, kind);
            endSignal(stacks, program, top, HANDLED);
            for (int act = 0; act < plan.actsOf(program, kind); act++) {
                doAct(plan, program, kind, act, value);
            }
        }

        private void tire(int program, int kind) {
            int at = program * MAX_KINDS + kind;
            if (at >= 0 && at < tired.length) {
                int more = tired[at] + kindNumber(kind, FADE);
                tired[at] = more < MAX_TIRED ? more : MAX_TIRED;
            }
        }

        private void doAct(Plan plan, int program, int kind, int act, int value) {
            int actKind = plan.actPart(program, kind, act, ACT_KIND);
            switch (plan.actPart(program, kind, act, ACT_TYPE)) {
                case RAISE:
                    int raised = (value + plan.actPart(program, kind, act, ACT_PLUS)) % (MAX_VALUE + 1);
                    sendSignal(plan.actPart(program, kind, act, ACT_PROGRAM), actKind, program, raised);
                    break;
                case MASK:
                    putMask(program, actKind, true);
                    break;
                case UNMASK:
                    putMask(program, actKind, false);
                    break;
                default:
                    dropKind(program, actKind);
                    break;
            }
        }
    }

    /**
     * Reads a text into a plan and a hall. Once an error is found, no further token is read and nothing
     * that is read later can take its place.
     */
    private static final class Parser {
        private static final int BLANK = 32;
        private static final int WORD = 0;
        private static final int NUMERAL = 1;
        private static final int SEMICOLON = 2;
        private static final int TEXT_END = 3;
        private static final int NO_TOKEN = 4;

        private static final int WRONG_TOKEN = 1;
        private static final int OUT_OF_BOUNDS = 2;
        private static final int WRONG_NAME = 3;
        private static final int TOO_MANY = 4;

        private final byte[] bytes;
        private final int length;
        private final Plan plan;
        private final Hall hall;
        private int token;
        private int start;
        private int behind;
        private int value;
        private int sendLines;
        private int error;
        private int errorAt = NONE;

        Parser(byte[] bytes, int length, Plan plan, Hall hall) {
            this.bytes = bytes;
            this.length = length < bytes.length ? length : bytes.length;
            this.plan = plan;
            this.hall = hall;
        }

        void readText() {
            plan.empty();
            hall.empty();
            advance();
            if (!wordIs("hall")) {
                fail(WRONG_TOKEN);
            }
            advance();
            for (int what = 0; what < SETTINGS; what++) {
                hall.putSetting(what, takeNumber(SETTING_LOW[what], SETTING_HIGH[what]));
            }
            for (int lines = 0; lines < length && error == 0 && token == SEMICOLON; lines++) {
                advance();
                if (wordIs("kind")) {
                    readKindLine();
                } else if (wordIs("program")) {
                    readProgramLine();
                } else if (wordIs("handle")) {
                    readHandleLine();
                } else if (wordIs("hide")) {
                    readHideLine();
                } else if (wordIs("send")) {
                    readSendLine();
                } else {
                    fail(WRONG_TOKEN);
                }
            }
            if (token != TEXT_END) {
                fail(WRONG_TOKEN);
            }
        }

        private void readKindLine() {
            int kind = plan.kinds.size;
            takeFirstWord(kind < MAX_KINDS);
            takeNewName(plan.kinds);
            for (int what = 0; what < KIND_NUMBERS; what++) {
                hall.putKindNumber(kind, what, takeNumber(KIND_LOW[what], KIND_HIGH[what]));
            }
        }

        private void readProgramLine() {
            takeFirstWord(plan.programs.size < MAX_PROGRAMS);
            takeNewName(plan.programs);
        }

        private void readHandleLine() {
            advance();
            int program = takeName(plan.programs);
            int kind = knownName(plan.kinds);
            if (error == 0 && plan.ticksOf(program, kind) > 0) {
                fail(WRONG_NAME);
            }
            advance();
            int ticks = takeNumber(1, MAX_HANDLER_TICKS);
            if (error != 0) {
                return;
            }
            plan.addHandler(program, kind, ticks);
            for (int acts = 0; acts <= MAX_ACTS && error == 0 && token == WORD; acts++) {
                readAct(program, kind, acts);
            }
        }

        private void readAct(int program, int kind, int actsBefore) {
            int type = actType();
            if (type == NONE) {
                fail(WRONG_TOKEN);
            }
            takeFirstWord(actsBefore < MAX_ACTS);
            int actKind = takeName(plan.kinds);
            int actProgram = NONE;
            int plus = NONE;
            if (type == RAISE) {
                actProgram = takeName(plan.programs);
                plus = takeNumber(0, MAX_VALUE);
            }
            if (error == 0) {
                plan.addAct(program, kind, type, actKind, actProgram, plus);
            }
        }

        private int actType() {
            if (wordIs("raise")) {
                return RAISE;
            }
            if (wordIs("mask")) {
                return MASK;
            }
            if (wordIs("unmask")) {
                return UNMASK;
            }
            return wordIs("drop") ? DROP : NONE;
        }

        private void readHideLine() {
            advance();
            int program = takeName(plan.programs);
            int kind = knownName(plan.kinds);
            if (error == 0 && hall.isMasked(program, kind)) {
                fail(WRONG_NAME);
            }
            advance();
            if (error == 0) {
                hall.putMask(program, kind, true);
            }
        }

        private void readSendLine() {
            takeFirstWord(sendLines < MAX_SEND_LINES);
            sendLines++;
            int program = takeName(plan.programs);
            int kind = takeName(plan.kinds);
            int sentValue = takeNumber(0, MAX_VALUE);
            if (error == 0) {
                hall.sendSignal(program, kind, NONE, sentValue);
            }
        }

        private void takeFirstWord(boolean hasRoom) {
            if (!hasRoom) {
                fail(TOO_MANY);
            }
            advance();
        }

        private void takeNewName(Names names) {
            if (token != WORD) {
                fail(WRONG_TOKEN);
            } else if (names.placeOf(bytes, start, behind - start) != NONE) {
                fail(WRONG_NAME);
            }
            if (error == 0) {
                names.add(bytes, start, behind - start);
            }
            advance();
        }

        private int takeName(Names names) {
            int number = knownName(names);
            advance();
            return number;
        }

        private int knownName(Names names) {
            if (token != WORD) {
                fail(WRONG_TOKEN);
                return NONE;
            }
            int number = names.placeOf(bytes, start, behind - start);
            if (number == NONE) {
                fail(WRONG_NAME);
            }
            return number;
        }

        private int takeNumber(int low, int high) {
            if (token != NUMERAL) {
                fail(WRONG_TOKEN);
            } else if (value < low || value > high) {
                fail(OUT_OF_BOUNDS);
            }
            int number = value;
            advance();
            return number;
        }

        private void fail(int code) {
            if (error == 0) {
                error = code;
                errorAt = start;
            }
        }

        private boolean wordIs(String word) {
            if (token != WORD || behind - start != word.length()) {
                return false;
            }
            for (int i = 0; i < word.length(); i++) {
                if (byteAt(start + i) != word.charAt(i)) {
                    return false;
                }
            }
            return true;
        }

        private int byteAt(int i) {
            return i >= 0 && i < length ? bytes[i] : NONE;
        }

        /** Goes to the next token; behind an error it stays where it is. */
        private void advance() {
            if (error != 0) {
                return;
            }
            start = behind;
            while (start < length && byteAt(start) == BLANK) {
                start++;
            }
            behind = start;
            if (start >= length) {
                token = TEXT_END;
            } else if (isLetter(byteAt(start))) {
                scanWord();
            } else if (isDigit(byteAt(start))) {
                scanNumber();
            } else {
                token = byteAt(start) == ';' ? SEMICOLON : NO_TOKEN;
                behind = start + 1;
            }
        }

        private void scanWord() {
            while (behind < length && isLetter(byteAt(behind))) {
                behind++;
            }
            token = behind - start <= MAX_LETTERS ? WORD : NO_TOKEN;
        }

        private void scanNumber() {
            value = 0;
            while (behind < length && isDigit(byteAt(behind))) {
                value = value * 10 + byteAt(behind) - '0';
                behind++;
            }
            token = behind - start <= MAX_DIGITS ? NUMERAL : NO_TOKEN;
        }

        private static boolean isLetter(int b) {
            return b >= 'a' && b <= 'z';
        }

        private static boolean isDigit(int b) {
            return b >= '0' && b <= '9';
        }
    }

    /** The text that was written last. */
    private static final class Output {
        // The longest text is that of 40 ends, each of a number of six digits, a letter and a blank.
        private final byte[] bytes = new byte[TOLD_ENDS * 10];
        private int length;

        void restart() {
            length = 0;
        }

        int byteAt(int i) {
            return i >= 0 && i < bytes.length ? bytes[i] : NONE;
        }

        void putByte(int b) {
            if (length < bytes.length) {
                bytes[length] = (byte) b;
                length++;
            }
        }

        void putNumber(int number) {
            int digits = 1;
            for (int rest = number / 10; rest > 0 && digits < 10; rest /= 10) {
                digits++;
            }
            int behind = length + digits;
            if (behind > bytes.length) {
                return;
            }
            int rest = number;
            for (int at = behind - 1; at >= length; at--) {
                bytes[at] = (byte) ('0' + rest % 10);
                rest /= 10;
            }
            length = behind;
        }

        void putName(Names names, int index) {
            for (int i = 0; i < names.lengthOf(index); i++) {
                putByte(names.letterOf(index, i));
            }
        }
    }
}
