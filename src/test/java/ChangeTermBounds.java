import java.util.LinkedHashMap;
import java.util.Map;

/** Boundary cases under "Terms", 5: exceptions, changes and undo, and what the interface says ahead of its calls. */
final class ChangeTermBounds {
    /** A call of each method that throws IllegalStateException without a text, with arguments that fit a sample. */
    private static final Map<String, Refusals.On> WITH_TEXT = new LinkedHashMap<>();
    private static final Map<String, Refusals.OnNumber> BY_PROGRAM = new LinkedHashMap<>();
    private static final Map<String, Refusals.OnNumber> BY_KIND = new LinkedHashMap<>();
    private static final Map<String, Refusals.OnNumber> BY_SIGNAL = new LinkedHashMap<>();
    private static final Map<String, Refusals.OnNumber> BY_INDEX = new LinkedHashMap<>();
    /** A call of each method that is documented as a change; each makes a sample another one. */
    private static final Map<String, Refusals.On> CHANGES = new LinkedHashMap<>();

    private ChangeTermBounds() {
    }

    private static void fill() {
        BY_PROGRAM.put("program", (x, p) -> x.program(p, 0));
        BY_PROGRAM.put("handler", (x, p) -> x.handler(p, 0, 0));
        BY_PROGRAM.put("urgency", (x, p) -> x.urgency(p, 0));
        BY_PROGRAM.put("tiredness", (x, p) -> x.tiredness(p, 0));
        BY_PROGRAM.put("next", (x, p) -> x.next(p));
        BY_PROGRAM.put("tiredest", (x, p) -> x.tiredest(p));
        BY_PROGRAM.put("loser", (x, p) -> x.loser(p, 0));
        BY_PROGRAM.put("idleIn", (x, p) -> x.idleIn(p));
        BY_PROGRAM.put("urgencyIn", (x, p) -> x.urgencyIn(p, 0, 1));
        BY_PROGRAM.put("bestMask", (x, p) -> x.bestMask(p));
        BY_PROGRAM.put("writeQueue", (x, p) -> x.writeQueue(p));
        BY_PROGRAM.put("writeStack", (x, p) -> x.writeStack(p));
        BY_PROGRAM.put("send", (x, p) -> x.send(p, 0, 0));
        BY_PROGRAM.put("mask", (x, p) -> x.mask(p, 0, true));
        BY_PROGRAM.put("clear", (x, p) -> x.clear(p));
        BY_PROGRAM.put("refresh", (x, p) -> x.refresh(p));
        BY_KIND.put("kind", (x, k) -> x.kind(k, 0));
        BY_KIND.put("handler", (x, k) -> x.handler(0, k, 0));
        BY_KIND.put("urgency", (x, k) -> x.urgency(0, k));
        BY_KIND.put("tiredness", (x, k) -> x.tiredness(0, k));
        BY_KIND.put("loser", (x, k) -> x.loser(0, k));
        BY_KIND.put("raisers", (x, k) -> x.raisers(k));
        BY_KIND.put("urgencyIn", (x, k) -> x.urgencyIn(0, k, 1));
        BY_KIND.put("send", (x, k) -> x.send(0, k, 0));
        BY_KIND.put("mask", (x, k) -> x.mask(0, k, true));
        BY_KIND.put("setKind", (x, k) -> x.setKind(k, 0, 5));
        BY_SIGNAL.put("whereIs", (x, s) -> x.whereIs(s));
        BY_SIGNAL.put("endIn", (x, s) -> x.endIn(s));
        BY_SIGNAL.put("endOf", (x, s) -> x.endOf(s));
        BY_SIGNAL.put("drop", (x, s) -> x.drop(s));
        BY_INDEX.put("queue", (x, i) -> x.queue(0, i, 0));
        BY_INDEX.put("running", (x, i) -> x.running(0, i, 0));
        BY_INDEX.put("end", (x, i) -> x.end(i, 0));
        BY_INDEX.put("save", (x, i) -> x.save(i));
        WITH_TEXT.put("find", x -> x.find(true, 0));
        WITH_TEXT.put("count", x -> x.count(0));
        WITH_TEXT.put("setting", x -> x.setting(0));
        WITH_TEXT.put("busiest", x -> x.busiest());
        WITH_TEXT.put("oldest", x -> x.oldest());
        WITH_TEXT.put("meanWait", x -> x.meanWait());
        WITH_TEXT.put("handledShare", x -> x.handledShare());
        WITH_TEXT.put("calmIn", x -> x.calmIn());
        WITH_TEXT.put("endsIn", x -> x.endsIn(0, 0));
        WITH_TEXT.put("sentIn", x -> x.sentIn(0));
        WITH_TEXT.put("writeEnds", x -> x.writeEnds());
        WITH_TEXT.put("tick", x -> x.tick(1));
        WITH_TEXT.put("set", x -> x.set(0, 1));
        BY_PROGRAM.forEach((name, call) -> WITH_TEXT.put(name, x -> call.answer(x, 0)));
        BY_KIND.forEach((name, call) -> WITH_TEXT.put(name, x -> call.answer(x, 0)));
        BY_SIGNAL.forEach((name, call) -> WITH_TEXT.put(name, x -> call.answer(x, 0)));
        BY_INDEX.forEach((name, call) -> WITH_TEXT.put(name, x -> call.answer(x, 0)));
        CHANGES.put("tick", x -> x.tick(1));
        CHANGES.put("send", x -> x.send(0, 1, 3));
        CHANGES.put("mask", x -> x.mask(1, 1, true));
        CHANGES.put("drop", x -> x.drop(x.queue(0, 0, 0)));
        CHANGES.put("clear", x -> x.clear(0));
        CHANGES.put("refresh", x -> x.refresh(0));
        CHANGES.put("setKind", x -> x.setKind(2, 2, 200));
        CHANGES.put("set", x -> x.set(1, 50));
    }

    static void look() {
        fill();
        Document.noBoundary("5. Exceptions, changes and undo");
        exceptions();
        Document.holds("A call of a method that throws an exception changes nothing,", ChangeTermBounds::refusedCalls);
        Document.holds("except that load, by IllegalArgumentException, empties the input buffer and sets parseError()"
                + " and errorPosition().", ChangeTermBounds::refusedLoad);
        changes();
        Document.holds("The text that was written last stays until the next text, also behind load, undo and restore.",
                ChangeTermBounds::lastText);
        Document.holds("The constants: NONE = -1: The value for \"none\", -1.",
                () -> Checks.due("NONE", FadingSignals.NONE, -1));
        interfaceSays();
    }

    private static void exceptions() {
        Document.holds("IllegalStateException is thrown if no text was loaded.", () -> {
            Checks.due("methods that are looked at", WITH_TEXT.size(), 40);
            WITH_TEXT.forEach((name, call) -> {
                FadingSignals fresh = new FadingSignals();
                Checks.state(name + " of a new object", () -> call.answer(fresh));
                FadingSignals failed = new FadingSignals();
                Checks.argument("a text with an error", () -> Checks.load(failed,
                        "hall 1 0 1 1;kind a 9 0 9;program p;"));
                Checks.state(name + " behind a text with an error", () -> call.answer(failed));
                Refusals.answered(name + " of a sample", call);
            });
        });
        Document.holds("IndexOutOfBoundsException is thrown if there is no such kind, program, signal or index.",
                () -> {
            BY_PROGRAM.forEach((name, call) -> noSuch("program of " + name, Refusals.PROGRAMS, call));
            BY_KIND.forEach((name, call) -> noSuch("kind of " + name, Refusals.KINDS, call));
            BY_SIGNAL.forEach((name, call) -> noSuch("signal of " + name, Refusals.sample().count(4), call));
            noSuch("index of queue", Refusals.sample().program(0, 0), BY_INDEX.get("queue"));
            noSuch("index of running", Refusals.sample().program(0, 1), BY_INDEX.get("running"));
            noSuch("index of end", Refusals.sample().count(13), BY_INDEX.get("end"));
            noSuch("slot of save", 2, BY_INDEX.get("save"));
            noSuch("slot of restore", 2, (x, slot) -> x.restore(slot));
            noSuch("index of textByte", Refusals.sample().writeEnds(), (x, i) -> x.textByte(i));
        });
        Document.holds("If several exceptions apply, the one that is listed first at the method is thrown.",
                ChangeTermBounds::firstException);
    }

    private static void noSuch(String what, int size, Refusals.OnNumber call) {
        for (int number : new int[] {-1, size, size + 1, Integer.MIN_VALUE, Integer.MAX_VALUE}) {
            FadingSignals x = Refusals.sample();
            Checks.index(what + ", " + number, () -> call.answer(x, number));
        }
        Refusals.answered(what + ", the first", x -> call.answer(x, 0));
        Refusals.answered(what + ", the last", x -> call.answer(x, size - 1));
    }

    private static void firstException() {
        FadingSignals none = new FadingSignals();
        BY_PROGRAM.forEach((name, call) -> Checks.state(name + " without a text", () -> call.answer(none, -1)));
        BY_KIND.forEach((name, call) -> Checks.state(name + " without a text", () -> call.answer(none, -1)));
        BY_SIGNAL.forEach((name, call) -> Checks.state(name + " without a text", () -> call.answer(none, -1)));
        BY_INDEX.forEach((name, call) -> Checks.state(name + " without a text", () -> call.answer(none, -1)));
        Checks.state("find without a text, n above the buffer", () -> none.find(true, 1));
        Checks.state("count without a text", () -> none.count(14));
        Checks.state("setting without a text", () -> none.setting(4));
        Checks.state("kind without a text", () -> none.kind(-1, 3));
        Checks.state("queue without a text", () -> none.queue(-1, -1, 5));
        Checks.state("endsIn without a text", () -> none.endsIn(6, 201));
        Checks.state("urgencyIn without a text", () -> none.urgencyIn(-1, -1, 201));
        Checks.state("sentIn without a text", () -> none.sentIn(-1));
        Checks.state("tick without a text", () -> none.tick(0));
        Checks.state("send without a text", () -> none.send(-1, -1, -1));
        Checks.state("setKind without a text", () -> none.setKind(-1, 3, 0));
        Checks.state("set without a text", () -> none.set(3, 0));
        Checks.index("restore of no slot, nothing saved", () -> none.restore(2));
        Checks.index("load of more than the buffer, and no text", () -> none.load(1));
        FadingSignals x = Refusals.sample();
        Checks.index("kind, and what", () -> x.kind(3, 3));
        Checks.index("program, and what", () -> x.program(2, 8));
        Checks.index("handler: program, and what", () -> x.handler(2, 0, 50));
        Checks.index("handler: kind, and what", () -> x.handler(0, 3, -1));
        Checks.index("queue: program, and what", () -> x.queue(2, 0, 5));
        Checks.index("queue: index, and what", () -> x.queue(0, 4, 5));
        Checks.index("running: program, and what", () -> x.running(2, 0, 5));
        Checks.index("running: index, and what", () -> x.running(0, 4, 5));
        Checks.index("end: index, and what", () -> x.end(40, 5));
        Checks.index("urgencyIn: program, and ticks", () -> x.urgencyIn(2, 0, 201));
        Checks.index("urgencyIn: kind, and ticks", () -> x.urgencyIn(0, 3, -1));
        Checks.index("send: program, and value", () -> x.send(2, 0, 1000));
        Checks.index("send: kind, and value", () -> x.send(0, 3, -1));
        Checks.index("setKind: kind, and what", () -> x.setKind(3, 3, 1));
        Checks.index("setKind: kind, and value", () -> x.setKind(3, 0, 0));
    }

    private static void refusedCalls() {
        BY_PROGRAM.forEach((name, call) -> Refusals.refused(name + " of no program", Refusals.INDEX,
                x -> call.answer(x, Refusals.PROGRAMS)));
        BY_KIND.forEach((name, call) -> Refusals.refused(name + " of no kind", Refusals.INDEX,
                x -> call.answer(x, Refusals.KINDS)));
        BY_SIGNAL.forEach((name, call) -> Refusals.refused(name + " of no signal", Refusals.INDEX,
                x -> call.answer(x, x.count(4))));
        BY_INDEX.forEach((name, call) -> Refusals.refused(name + " of no index", Refusals.INDEX,
                x -> call.answer(x, 64)));
        Refusals.refused("restore", Refusals.INDEX, x -> x.restore(2));
        Refusals.refused("textByte", Refusals.INDEX, x -> x.textByte(64));
        Refusals.refused("load", Refusals.INDEX, x -> x.load(21));
        Refusals.refused("find", Refusals.INDEX, x -> x.find(false, 21));
        Refusals.refused("count", Refusals.ARGUMENT, x -> x.count(14));
        Refusals.refused("setting", Refusals.ARGUMENT, x -> x.setting(4));
        Refusals.refused("handler", Refusals.ARGUMENT, x -> x.handler(0, 0, 50));
        Refusals.refused("endsIn", Refusals.ARGUMENT, x -> x.endsIn(0, 201));
        Refusals.refused("sentIn", Refusals.ARGUMENT, x -> x.sentIn(201));
        Refusals.refused("tick", Refusals.ARGUMENT, x -> x.tick(201));
        Refusals.refused("send", Refusals.ARGUMENT, x -> x.send(0, 0, 1000));
        Refusals.refused("setKind", Refusals.ARGUMENT, x -> x.setKind(0, 0, 100));
        Refusals.refused("set", Refusals.ARGUMENT, x -> x.set(0, 5));
        FadingSignals x = Checks.loaded("hall 1 0 1 1;kind a 9 0 9;program p");
        Checks.append(x, "p");
        Checks.state("undo of nothing", () -> x.undo());
        Checks.state("restore of nothing", () -> x.restore(0));
        Checks.due("nothing is changed", x.buffered() + " " + x.undoable() + " " + x.count(3) + " " + x.find(false, 1),
                "20 0 0 0");
    }

    private static void refusedLoad() {
        FadingSignals x = Refusals.sample();
        Checks.argument("load", () -> x.load(20));
        Checks.due("the buffer", x.buffered(), 0);
        Checks.due("parseError and errorPosition", x.parseError() + " " + x.errorPosition(), "1 0");
        FadingSignals y = Refusals.sample();
        Checks.due("all of the hall stays", Checks.told(x), Checks.told(y));
        Checks.due("what can be undone stays", x.undoable(), y.undoable());
        Checks.due("the text stays", x.textByte(1), y.textByte(1));
        Checks.due("the change behind it is undone", x.undo(), y.undo());
        Checks.due("to the same hall", Checks.told(x), Checks.told(y));
        for (int slot = 0; slot < 2; slot++) {
            FadingSignals failed = Refusals.sample();
            Checks.argument("load", () -> failed.load(0));
            Checks.due("at its first byte", failed.errorPosition(), 0);
            FadingSignals untouched = Refusals.sample();
            Checks.due("a saved hall stays", failed.restore(slot), untouched.restore(slot));
            Checks.due("whole", Checks.told(failed), Checks.told(untouched));
        }
    }

    private static void changes() {
        Document.holds("The methods that are documented as changes can be undone, the latest one first;",
                () -> CHANGES.forEach((name, call) -> {
                    FadingSignals x = Refusals.sample();
                    String before = Checks.told(x);
                    Checks.due(name + " is answered", Checks.outcome(() -> call.answer(x)) instanceof String, false);
                    Checks.due(name + " shows", Checks.told(x).equals(before), false);
                    FadingSignals y = Refusals.sample();
                    call.answer(y);
                    Checks.due(name + ", behind it", y.undoable(), Refusals.CHANGES + 1);
                    Checks.due(name + ", undone", y.undo(), Refusals.CHANGES);
                    Checks.due(name + ", undone", Checks.told(y), before);
                }));
        Document.holds("each call of one of them that succeeds is a change, even if nothing is different then.",
                ChangeTermBounds::nothingDifferent);
        Document.holds("Only the latest 8 changes since the last successful call of load or restore are kept for this.",
                ChangeTermBounds::latestEight);
    }

    private static void nothingDifferent() {
        FadingSignals x = Checks.loaded("hall 1 0 50 9;kind a 9 0 9;program p;send p a 0");
        x.drop(0);
        String before = Checks.told(x);
        Checks.due("dropped already", x.drop(0), 2);
        Checks.due("a change", x.undoable(), 2);
        Checks.due("an empty queue", x.clear(0), 0);
        Checks.due("a change", x.undoable(), 3);
        Checks.due("not tired", x.refresh(0), 0);
        Checks.due("a change", x.undoable(), 4);
        Checks.due("not in the mask already", x.mask(0, 0, false), false);
        Checks.due("a change", x.undoable(), 5);
        Checks.due("the same number", x.setKind(0, 0, 9), 9);
        Checks.due("a change", x.undoable(), 6);
        Checks.due("the same setting", x.set(2, 50), 50);
        Checks.due("a change", x.undoable(), 7);
        Checks.due("nothing is different", Checks.told(x), before);
        for (int left = 6; left >= 1; left--) {
            Checks.due("undone", x.undo(), left);
        }
        Checks.due("nothing is different then", x.count(12), 1);
        x.undo();
        Checks.due("but for the first of them", x.count(12), 0);
    }

    private static void latestEight() {
        for (int changes : new int[] {0, 1, 7, 8, 9, 15, 16, 17, 40}) {
            FadingSignals x = Checks.loaded("hall 1 0 50 9;kind a 9 0 9;program p");
            x.save(0);
            x.tick(200);
            x.restore(0);
            x.tick(200);
            Checks.load(x, "hall 1 0 50 9;kind a 9 0 9;program p");
            for (int i = 0; i < changes; i++) {
                x.tick(1);
            }
            int kept = Math.min(8, changes);
            Checks.due(changes + " changes: kept", x.undoable(), kept);
            for (int left = kept - 1; left >= 0; left--) {
                Checks.due(changes + " changes: left", x.undo(), left);
                Checks.due(changes + " changes: the time", x.count(3), changes - kept + left);
            }
            Checks.state(changes + " changes: no more", () -> x.undo());
            Checks.due(changes + " changes: the time stays", x.count(3), changes - kept);
        }
        FadingSignals x = Checks.loaded("hall 1 0 50 9;kind a 9 0 9;program p");
        for (int i = 0; i < 5; i++) {
            x.tick(1);
            x.save(0);
        }
        Checks.argument("a load that fails", () -> x.load(0));
        Checks.state("a restore that fails", () -> x.restore(1));
        Checks.due("those that fail do not count", x.undoable(), 5);
        x.restore(0);
        Checks.due("none since restore", x.undoable(), 0);
        x.tick(1);
        Checks.due("one since restore", x.undoable(), 1);
        Checks.load(x, "hall 1 0 50 9");
        Checks.due("none since load", x.undoable(), 0);
    }

    private static void lastText() {
        FadingSignals x = Checks.loaded("hall 1 0 50 9;kind a 9 0 9;program p;send p a 7");
        Checks.index("before the first text", () -> x.textByte(0));
        x.save(0);
        x.tick(1);
        x.writeEnds();
        Checks.due("the text", Checks.written(x, 2), "0n");
        x.undo();
        Checks.due("behind undo", Checks.written(x, 2), "0n");
        x.tick(1);
        x.restore(0);
        Checks.due("behind restore", Checks.written(x, 2), "0n");
        Checks.load(x, "hall 1 0 50 9;program q");
        Checks.due("behind load", Checks.written(x, 2), "0n");
        Checks.index("no more than it", () -> x.textByte(2));
        Checks.due("the next text, which is empty", x.writeQueue(0), 0);
        Checks.index("it replaces the last one", () -> x.textByte(0));
    }

    private static void interfaceSays() {
        Document.noBoundary("Ahead of the calls append, load, ... ---- input.",
                "Ahead of the calls count, setting, ... ---- what there is.", "Ahead of the calls next, ... ----"
                        + " looks.");
        Document.holds("Ahead of the calls idleIn, ... ---- what would be, if only ticks passed (nothing is changed;"
                + " the bounds of the time do not matter).", () -> {
            Refusals.changesNothing("idleIn", x -> x.idleIn(0));
            Refusals.changesNothing("calmIn", x -> x.calmIn());
            Refusals.changesNothing("endIn", x -> x.endIn(2));
            Refusals.changesNothing("endOf", x -> x.endOf(2));
            Refusals.changesNothing("endsIn", x -> x.endsIn(0, 200));
            Refusals.changesNothing("urgencyIn", x -> x.urgencyIn(0, 0, 200));
            Refusals.changesNothing("sentIn", x -> x.sentIn(200));
            Refusals.changesNothing("bestMask", x -> x.bestMask(0));
            timeDoesNotMatter();
        });
        Document.noBoundary("Ahead of the calls writeQueue, ... ---- texts.");
        Document.holds("Ahead of the calls tick, send, ... ---- changes (each can be undone, the latest one first).",
                () -> {
            FadingSignals x = Checks.loaded("hall 1 0 50 9;kind a 9 0 9;kind b 8 0 9;program p;handle p a 3;send p b"
                    + " 0");
            x.send(0, 0, 1);
            x.tick(1);
            x.mask(0, 1, true);
            x.setKind(0, 0, 50);
            x.set(0, 4);
            x.drop(1);
            x.clear(0);
            x.refresh(0);
            String[] left = {"0 1 50 4 2", "1 1 50 4 2", "1 1 50 4 2", "1 1 50 1 2", "1 1 9 1 2", "1 0 9 1 2",
                    "2 0 9 1 2",
                "1 0 9 1 1"};
            String[] running = {"0", "0", "1", "1", "1", "1", "0", "0"};
            for (int i = 0; i < 8; i++) {
                Checks.due("undone " + i, x.undo(), 7 - i);
                Checks.due("undone " + i, x.program(0, 0) + " " + x.program(0, 2) / 2 + " " + x.kind(0, 0) + " "
                        + x.setting(0)
                        + " " + x.count(4) + "/" + x.program(0, 1), left[i] + "/" + running[i]);
            }
        });
    }

    private static void timeDoesNotMatter() {
        FadingSignals x = Checks.loaded("hall 1 0 50 9;kind a 20 7 200;kind b 10 0 200;program p;handle p a 7 raise b"
                + " p 0;hide p b");
        for (int i = 0; i < 49; i++) {
            x.tick(200);
        }
        x.tick(199);
        x.send(0, 0, 0);
        Checks.due("the time can't be greater", Checks.outcome(() -> x.tick(1)), Refusals.ARGUMENT);
        Checks.due("endIn, endOf", x.endIn(0) + " " + x.endOf(0), "7 0");
        Checks.due("idleIn, calmIn", x.idleIn(0) + " " + x.calmIn(), "-1 -1");
        Checks.due("endsIn, sentIn", x.endsIn(0, 200) + " " + x.sentIn(200), "1 1");
        // The time would be 10000, a multiple of REST, in the first tick; 10050 is one, too.
        Checks.due("urgencyIn", x.urgencyIn(0, 0, 50) + " " + x.urgencyIn(0, 0, 51), "13 14");
        Checks.due("bestMask", x.bestMask(0), 0);
    }
}
