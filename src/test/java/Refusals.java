import java.util.ArrayList;
import java.util.List;

/**
 * Calls that are refused. Each is made on an object where much has happened, and all that the object tells behind it
 * is compared with what the same object tells without that call. No object gets more than 512 calls, so what is
 * told is told in parts, each of an object of its own.
 */
final class Refusals {
    interface On {
        Object answer(FadingSignals x);
    }

    interface OnNumber {
        Object answer(FadingSignals x, int number);
    }

    static final String STATE = "IllegalStateException";
    static final String INDEX = "IndexOutOfBoundsException";
    static final String ARGUMENT = "IllegalArgumentException";

    static final int KINDS = 3;
    static final int PROGRAMS = 2;
    static final int CHANGES = 6;

    private static final String TEXT = "hall 3 2 5 3;kind a 20 8 30;kind b 30 5 30;kind c 9 9 3;program p;program q"
            + ";handle p a 3 raise b q 7;handle p b 2;handle q b 2;hide q c;send p a 100;send q a 5";
    private static final int PARTS = 4 + CHANGES;
    private static final List<String> UNTOUCHED = new ArrayList<>();

    private Refusals() {
    }

    /** An object with running handlers, full queues, ends, saved halls, changes, a text, an error and a buffer. */
    static FadingSignals sample() {
        FadingSignals x = Checks.loaded(TEXT);
        x.tick(1);
        x.save(0);
        x.send(0, 1, 5);
        x.tick(2);
        x.save(1);
        Checks.append(x, "hall 0");
        Checks.outcome(() -> x.load(6));
        x.mask(1, 0, true);
        x.send(0, 2, 7);
        x.tick(1);
        x.writeEnds();
        Checks.append(x, "a");
        return x;
    }

    /** A part of what an object tells; the object may be another one behind that. */
    private static String tell(int part, FadingSignals x) {
        switch (part) {
            case 0:
                return x.buffered() + " " + x.parseError() + " " + x.errorPosition() + " " + x.undoable() + " "
                        + text(x) + " " + Checks.outcome(() -> x.find(true, 1));
            case 1:
                return Checks.outcome(() -> x.restore(0)) + " " + Checks.told(x);
            case 2:
                return Checks.outcome(() -> x.restore(1)) + " " + Checks.told(x);
            default:
                StringBuilder told = new StringBuilder();
                for (int undone = 3; undone < part; undone++) {
                    told.append(Checks.outcome(() -> x.undo())).append(' ');
                }
                return told.append(Checks.told(x)).toString();
        }
    }

    private static String text(FadingSignals x) {
        StringBuilder text = new StringBuilder();
        for (int i = 0; i < 400; i++) {
            int index = i;
            Object told = Checks.outcome(() -> x.textByte(index));
            if (told instanceof String) {
                break;
            }
            text.append(told).append(',');
        }
        return text.toString();
    }

    /** Looks that a call changes nothing in a sample, whatever it answers. */
    static void changesNothing(String what, On call) {
        if (UNTOUCHED.isEmpty()) {
            for (int part = 0; part < PARTS; part++) {
                UNTOUCHED.add(tell(part, sample()));
            }
        }
        for (int part = 0; part < PARTS; part++) {
            FadingSignals x = sample();
            Checks.outcome(() -> call.answer(x));
            Checks.due(what + " changes nothing, part " + part, tell(part, x), UNTOUCHED.get(part));
        }
    }

    static void refused(String what, String exception, On call) {
        FadingSignals x = sample();
        Checks.answers(what, exception, () -> call.answer(x));
        changesNothing(what, call);
    }

    static void answered(String what, On call) {
        FadingSignals x = sample();
        Object got = Checks.outcome(() -> call.answer(x));
        Checks.due(what + " is answered, by " + got, got instanceof String, false);
    }

    /** A number may be from low to high; what is beyond is refused and changes nothing. */
    private static void bounds(String exception, int low, int high, OnNumber call) {
        for (int number : new int[] {low - 1, high + 1, Integer.MIN_VALUE, Integer.MAX_VALUE}) {
            refused(number + " for the number", exception, x -> call.answer(x, number));
        }
        if (high >= low) {
            answered(low + " for the number", x -> call.answer(x, low));
            answered(high + " for the number", x -> call.answer(x, high));
        }
    }

    static void outOfRange(int low, int high, OnNumber call) {
        bounds(ARGUMENT, low, high, call);
    }

    static void noSuchIndex(int size, OnNumber call) {
        bounds(INDEX, 0, size - 1, call);
    }

    static void noSuchProgram(OnNumber call) {
        noSuchIndex(PROGRAMS, call);
        FadingSignals none = Checks.loaded("hall 1 0 1 1;kind a 9 0 9");
        Checks.index("program 0 of a hall without programs", () -> call.answer(none, 0));
        FadingSignals six = Checks.loaded(fullHouse());
        Checks.due("program 5 of six is answered", Checks.outcome(() -> call.answer(six, 5)) instanceof String, false);
        Checks.index("program 6 of six", () -> call.answer(six, 6));
    }

    static void noSuchKind(OnNumber call) {
        noSuchIndex(KINDS, call);
        FadingSignals none = Checks.loaded("hall 1 0 1 1;program p");
        Checks.index("kind 0 of a hall without kinds", () -> call.answer(none, 0));
        FadingSignals eight = Checks.loaded(fullHouse());
        Checks.due("kind 7 of eight is answered", Checks.outcome(() -> call.answer(eight, 7)) instanceof String, false);
        Checks.index("kind 8 of eight", () -> call.answer(eight, 8));
    }

    static void noSuchSignal(OnNumber call) {
        noSuchIndex(sample().count(4), call);
        FadingSignals none = Checks.loaded("hall 1 0 1 1;kind a 9 0 9;program p");
        Checks.index("signal 0 where none was sent", () -> call.answer(none, 0));
    }

    /** The call is refused by IllegalStateException as long as no text was loaded, and changes nothing then. */
    static void withoutText(On call) {
        FadingSignals fresh = new FadingSignals();
        Checks.state("on a new object", () -> call.answer(fresh));
        Checks.due("its buffer stays empty, nothing can be undone", fresh.buffered() + fresh.undoable(), 0);
        FadingSignals failed = new FadingSignals();
        Checks.outcome(() -> Checks.load(failed, "hall 0"));
        Checks.append(failed, "hall 1 0 1 1;kind a 9 0 9;program p");
        Checks.state("where load has failed", () -> call.answer(failed));
        Checks.due("the buffer stays", failed.buffered(), 40);
        Checks.due("parseError stays", failed.parseError(), 2);
        Checks.due("errorPosition stays", failed.errorPosition(), 5);
        Checks.state("there is still no hall", () -> failed.count(0));
        Checks.due("the text can still be loaded", Checks.outcome(() -> failed.load(35)), 1);
        Checks.due("it is refused no more", Checks.outcome(() -> call.answer(failed)).equals(STATE), false);
    }

    /** Eight kinds, a to h, and six programs, p to u, the first and the last of them with handlers. */
    static String fullHouse() {
        StringBuilder text = new StringBuilder("hall 4 0 50 12");
        for (char kind = 'a'; kind <= 'h'; kind++) {
            text.append(";kind ").append(kind).append(" 9 1 99");
        }
        for (char program = 'p'; program <= 'u'; program++) {
            text.append(";program ").append(program);
        }
        return text.append(";handle p a 1;handle u h 1").toString();
    }
}
