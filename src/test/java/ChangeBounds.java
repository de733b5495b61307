/** Boundary cases of the promises 39 to 50: changes. */
final class ChangeBounds {
    private static final String NO_TEXT = "Throws IllegalStateException if no text was loaded";
    private static final String NO_PROGRAM = "Throws IndexOutOfBoundsException if there is no such program";
    private static final String NO_PROGRAM_OR_KIND = "Throws IndexOutOfBoundsException if there is no such program or"
            + " kind";
    private static final String NO_SLOT = "Throws IndexOutOfBoundsException if there is no such slot";

    private ChangeBounds() {
    }

    static void look() {
        tick();
        send();
        mask();
        drop();
        clear();
        refresh();
        setKind();
        set();
        undo();
        undoable();
        save();
        restore();
    }

    /** The call is a change: one more can be undone, and then all is as it was; the input and the text stay. */
    private static void isChange(Refusals.On call) {
        FadingSignals x = Refusals.sample();
        String beside = beside(x);
        Object got = Checks.outcome(() -> call.answer(x));
        Checks.due("answered by " + got, got instanceof String, false);
        Checks.due("one more can be undone", x.undoable(), Refusals.CHANGES + 1);
        Checks.due("the buffer, the error and the text stay", beside(x), beside);
        Checks.due("undone", x.undo(), Refusals.CHANGES);
        Checks.due("all is as it was", Checks.told(x), Checks.told(Refusals.sample()));
        Checks.due("the buffer, the error and the text stay", beside(x), beside);
    }

    private static String beside(FadingSignals x) {
        return x.buffered() + " " + x.parseError() + " " + x.errorPosition() + " " + x.textByte(0);
    }

    private static void tick() {
        Document.section("Promise 39: tick");
        Document.holds("Lets ticks pass. This is a change.", () -> {
            isChange(x -> x.tick(1));
            isChange(x -> x.tick(200));
        });
        Document.holds("ticks: 1 to 200", () -> {
            FadingSignals x = Checks.loaded("hall 1 0 50 9;kind a 9 0 200;program p");
            x.tick(1);
            Checks.due("1", x.count(3), 1);
            x.tick(200);
            Checks.due("200", x.count(3), 201);
            x.tick(199);
            Checks.due("199", x.count(3), 400);
        });
        Document.holds("Returns how many signals have an end by that.", () -> {
            FadingSignals x = Checks.loaded("hall 1 0 50 2;kind a 9 0 200;kind b 8 0 3;program p;program q;handle p a"
                    + " 1 raise a p 0;hide q b;send q b 0");
            Checks.due("none", x.tick(2), 0);
            Checks.due("one", x.tick(1), 1);
            Checks.due("none again", x.tick(1), 0);
            x.send(0, 0, 0);
            Checks.due("more than can be told", x.tick(200), 200);
            FadingSignals y = Checks.loaded("hall 1 0 50 12;kind a 9 0 9;program p;program q;program r;program s"
                    + ";program t;program u");
            for (int i = 0; i < 72; i++) {
                y.send(i / 12, 0, 0);
            }
            Checks.due("72 in one tick", y.tick(1), 72);
        });
        Document.holds(NO_TEXT, () -> Refusals.withoutText(x -> x.tick(1)));
        Document.holds("Throws IllegalArgumentException if ticks is out of range,",
                () -> Refusals.outOfRange(1, 200, (x, ticks) -> x.tick(ticks)));
        Document.holds("or the time would be greater than 9999", () -> {
            FadingSignals x = Checks.loaded("hall 1 0 50 2;kind a 9 0 200;program p");
            for (int i = 0; i < 49; i++) {
                x.tick(200);
            }
            x.tick(100);
            Checks.argument("9900 and 100", () -> x.tick(100));
            Checks.argument("9900 and 200", () -> x.tick(200));
            Checks.due("nothing is changed", x.count(3) + " " + x.undoable(), "9900 8");
            x.tick(99);
            Checks.due("9999", x.count(3), 9999);
            Checks.argument("9999 and 1", () -> x.tick(1));
            Checks.argument("9999 and 200", () -> x.tick(200));
            Checks.due("still 9999", x.count(3), 9999);
            x.undo();
            x.tick(98);
            x.tick(1);
            Checks.due("9998 and 1", x.count(3), 9999);
        });
    }

    private static void send() {
        Document.section("Promise 40: send");
        Document.holds("Sends a signal, which no program sent. This is a change.", () -> {
            FadingSignals x = Checks.loaded("hall 1 0 50 9;kind a 9 0 200;program p;program q");
            x.send(1, 0, 0);
            Checks.due("no program sent it", x.queue(1, 0, 2), -1);
            Checks.due("it is counted for none", x.program(0, 5) + x.program(1, 5), 0);
            isChange(y -> y.send(0, 1, 3));
            isChange(y -> y.send(1, 2, 999));
        });
        Document.noBoundary("program: number of the program to which it is sent", "kind: number of the kind");
        Document.holds("value: 0 to 999", () -> {
            FadingSignals x = Checks.loaded("hall 1 0 50 9;kind a 9 0 200;program p");
            int[] values = {0, 1, 998, 999};
            for (int i = 0; i < 4; i++) {
                x.send(0, 0, values[i]);
                Checks.due("its value", x.queue(0, i, 3), values[i]);
            }
        });
        Document.holds("Returns its number.", () -> {
            FadingSignals x = Checks.loaded("hall 1 0 50 1;kind a 9 0 200;kind b 8 0 9;program p;handle p a 1 raise b"
                    + " p 0 raise b p 0");
            Checks.due("the first one", x.send(0, 0, 0), 0);
            Checks.due("one that is lost at once", x.send(0, 1, 0), 1);
            x.tick(1);
            Checks.due("behind two of a program", x.send(0, 0, 0), 4);
            x.undo();
            Checks.due("the same number behind undo", x.send(0, 1, 0), 4);
        });
        Document.holds(NO_TEXT, () -> Refusals.withoutText(x -> x.send(0, 0, 0)));
        Document.holds(NO_PROGRAM_OR_KIND, () -> {
            Refusals.noSuchProgram((x, program) -> x.send(program, 0, 0));
            Refusals.noSuchKind((x, kind) -> x.send(0, kind, 0));
        });
        Document.holds("Throws IllegalArgumentException if value is out of range",
                () -> Refusals.outOfRange(0, 999, (x, value) -> x.send(1, 2, value)));
    }

    private static void mask() {
        Document.section("Promise 41: mask");
        Document.holds("Puts a kind into the mask of a program, or takes it out. This is a change.", () -> {
            isChange(x -> x.mask(0, 0, true));
            isChange(x -> x.mask(0, 0, false));
            isChange(x -> x.mask(1, 2, true));
            isChange(x -> x.mask(1, 2, false));
        });
        Document.noBoundary("program: number of the program", "kind: number of the kind");
        Document.holds("is: whether it is in the mask then", () -> {
            FadingSignals x = Checks.loaded(Refusals.fullHouse() + ";hide u h");
            int[] masks = {128, 0, 0, 128, 128};
            boolean[] is = {true, false, false, true, true};
            for (int i = 0; i < is.length; i++) {
                x.mask(5, 7, is[i]);
                Checks.due("the last kind of the last program, " + i, x.program(5, 2), masks[i]);
            }
            x.mask(5, 0, true);
            Checks.due("the first kind, too", x.program(5, 2), 129);
            Checks.due("no other program", x.program(4, 2) + x.program(0, 2), 0);
        });
        Document.holds("Returns whether it was.", () -> {
            FadingSignals x = Checks.loaded(Refusals.fullHouse() + ";hide u h");
            Checks.due("it was, by the text", x.mask(5, 7, true), true);
            Checks.due("it was, put into it again", x.mask(5, 7, false), true);
            Checks.due("it was not, taken out", x.mask(5, 7, false), false);
            Checks.due("it was not, taken out again", x.mask(5, 7, true), false);
            Checks.due("another kind was not", x.mask(5, 6, true), false);
            Checks.due("another program has none", x.mask(4, 7, true), false);
        });
        Document.holds(NO_TEXT, () -> Refusals.withoutText(x -> x.mask(0, 0, true)));
        Document.holds(NO_PROGRAM_OR_KIND, () -> {
            Refusals.noSuchProgram((x, program) -> x.mask(program, 0, true));
            Refusals.noSuchKind((x, kind) -> x.mask(0, kind, true));
        });
    }

    private static void drop() {
        Document.section("Promise 42: drop");
        Document.holds("Drops a signal that is in a queue, or whose handler is running (it leaves the stack, also from"
                + " below others, which stay, without its acts, and nobody is tired by it).", () -> {
            for (int dropped = 0; dropped < 4; dropped++) {
                FadingSignals x = fourRunning();
                x.drop(dropped);
                Checks.due("its end", x.whereIs(dropped) + " " + x.end(0, 1) + " " + x.end(0, 3), "25 5 0");
                StringBuilder want = new StringBuilder();
                for (int signal = 3; signal >= 0; signal--) {
                    want.append(signal == dropped ? "" : signal + " ");
                }
                StringBuilder stay = new StringBuilder();
                for (int i = 0; i < x.program(0, 1); i++) {
                    stay.append(x.running(0, i, 0)).append(' ');
                }
                Checks.due("the others stay", stay.toString(), want.toString());
                Checks.due("what is left of the top", x.running(0, 0, 3), dropped == 3 ? 2 : 1);
                x.tick(20);
                Checks.due("the others are handled, and their acts are done", x.count(7) + " " + x.count(4), "3 7");
                Checks.due("nobody is tired by it", x.tiredness(0, dropped), 0);
                Checks.due("nothing of it is done", x.program(0, 2), 15 - (1 << dropped));
            }
            FadingSignals queued = Checks.loaded("hall 1 0 50 9;kind a 9 0 200;program p;send p a 0;send p a 0;send p"
                    + " a 0");
            queued.drop(1);
            Checks.due("from the middle of a queue", Checks.queue(queued, 0) + "/" + Checks.ends(queued), "0 2/1:5");
            queued.drop(2);
            queued.drop(0);
            Checks.due("the last one", Checks.queue(queued, 0) + "/" + Checks.ends(queued), "/0:5 2:5 1:5");
        });
        Document.holds("This is a change, also if it is neither.", () -> {
            isChange(x -> x.drop(x.queue(0, 0, 0)));
            isChange(x -> x.drop(x.running(0, 0, 0)));
            isChange(x -> x.drop(x.end(0, 0)));
        });
        Document.noBoundary("signal: number of a signal that was sent");
        Document.holds("Returns 0 if it was in a queue, 1 if its handler was running, 2 if neither.", () -> {
            FadingSignals x = Checks.loaded("hall 1 0 50 9;kind a 9 0 200;program p;program q;handle p a 9;send p a 0"
                    + ";send q a 0;send p a 0;send q a 0");
            x.mask(1, 0, true);
            x.tick(1);
            Checks.due("in a queue", x.drop(1) + x.drop(2), 0);
            Checks.due("its handler was running", x.drop(0), 1);
            Checks.due("neither", x.drop(0) + x.drop(1), 4);
            Checks.due("dropped but once", x.count(12) + " " + x.program(0, 7), "3 2");
            for (int i = 0; i < 41; i++) {
                x.send(0, 0, 0);
                x.drop(4 + i);
            }
            Checks.due("neither, and its end can be told no more", x.drop(0), 2);
        });
        Document.holds(NO_TEXT, () -> Refusals.withoutText(x -> x.drop(0)));
        Document.holds("Throws IndexOutOfBoundsException if there is no such signal",
                () -> Refusals.noSuchSignal((x, signal) -> x.drop(signal)));
    }

    /** Four handlers run, of the kinds and signals 0 to 3; each would mask its kind and send one of a fifth kind. */
    private static FadingSignals fourRunning() {
        FadingSignals x = Checks.loaded("hall 4 0 50 9;kind a 10 1 99;kind b 20 1 99;kind c 30 1 99;kind d 40 1 99"
                + ";kind e 1 0 99;program p;program q;handle p a 2 mask a raise e q 0;handle p b 2 mask b raise e q 0"
                + ";handle p c 3 mask c"
                + " raise e q 0;handle p d 2 mask d raise e q 0");
        for (int kind = 0; kind < 4; kind++) {
            x.send(0, kind, 0);
            x.tick(1);
        }
        return x;
    }

    private static void clear() {
        Document.section("Promise 43: clear");
        Document.holds("Drops all signals of the queue of a program, by numbers. This is a change.", () -> {
            FadingSignals x = Checks.loaded("hall 1 0 50 9;kind a 9 0 200;kind b 10 0 9;program p;program q;handle p a"
                    + " 9;send p a 0;send p a 0;send q a 0;send p b 0;send p a 0");
            x.mask(0, 1, true);
            x.mask(1, 0, true);
            x.tick(1);
            x.clear(0);
            Checks.due("by numbers, not in the order; masked ones, too", Checks.ends(x), "4:5 3:5 1:5");
            Checks.due("not the running one, not another queue", x.whereIs(0) + " " + x.whereIs(2), "10 1");
            isChange(y -> y.clear(0));
            isChange(y -> y.clear(1));
        });
        Document.noBoundary("program: number of the program");
        Document.holds("Returns how many there were.", () -> {
            for (int sent = 0; sent <= 13; sent++) {
                FadingSignals x = Checks.loaded("hall 1 0 50 12;kind a 9 0 200;program p;program q");
                for (int i = 0; i < sent; i++) {
                    x.send(1, 0, 0);
                }
                Checks.due(sent + " sent", x.clear(1), Math.min(12, sent));
                Checks.due("none is left", x.clear(1) + x.program(1, 0), 0);
            }
        });
        Document.holds(NO_TEXT, () -> Refusals.withoutText(x -> x.clear(0)));
        Document.holds(NO_PROGRAM, () -> Refusals.noSuchProgram((x, program) -> x.clear(program)));
    }

    private static FadingSignals tiredOfAll() {
        StringBuilder text = new StringBuilder("hall 1 0 50 12;program p;program q");
        for (char kind = 'a'; kind <= 'h'; kind++) {
            text.append(";kind ").append(kind).append(" 50 20 200;handle p ").append(kind).append(" 1;handle q"
                    + " ").append(kind)
                    .append(" 1");
        }
        FadingSignals x = Checks.loaded(text.toString());
        for (int kind = 0; kind < 8; kind++) {
            x.setKind(kind, 1, 10 + kind);
            x.send(0, kind, 0);
            x.send(1, kind, 0);
        }
        x.tick(8);
        return x;
    }

    private static void refresh() {
        Document.section("Promise 44: refresh");
        Document.holds("Takes all tiredness of a program away. This is a change.", () -> {
            FadingSignals x = tiredOfAll();
            x.refresh(1);
            for (int kind = 0; kind < 8; kind++) {
                Checks.due("of it and of the other one, " + kind, x.tiredness(1, kind) + " " + x.tiredness(0, kind),
                        "0 " + (10 + kind));
            }
            isChange(y -> y.refresh(0));
            isChange(y -> y.refresh(1));
        });
        Document.noBoundary("program: number of the program");
        Document.holds("Returns the sum of its tiredness before.", () -> {
            FadingSignals x = tiredOfAll();
            Checks.due("all eight kinds", x.refresh(0), 108);
            Checks.due("none is left", x.refresh(0), 0);
            Checks.due("the other program", x.refresh(1), 108);
            Checks.due("no kinds", Checks.loaded("hall 1 0 1 1;program p").refresh(0), 0);
        });
        Document.holds(NO_TEXT, () -> Refusals.withoutText(x -> x.refresh(0)));
        Document.holds(NO_PROGRAM, () -> Refusals.noSuchProgram((x, program) -> x.refresh(program)));
    }

    private static void setKind() {
        Document.section("Promise 45: setKind");
        Document.holds("Sets a number of a kind. This is a change.", () -> {
            isChange(x -> x.setKind(0, 0, 99));
            isChange(x -> x.setKind(2, 2, 200));
            FadingSignals x = Checks.loaded(Refusals.fullHouse());
            x.setKind(7, 2, 77);
            Checks.due("this one alone", x.kind(7, 0) + " " + x.kind(7, 1) + " " + x.kind(7, 2) + " " + x.kind(6, 2),
                    "9 1 77 99");
        });
        Document.noBoundary("kind: number of the kind");
        Document.holds("what: as in kind()", () -> {
            FadingSignals x = Checks.loaded("hall 1 0 50 12;kind a 9 1 50");
            for (int what = 0; what < 3; what++) {
                x.setKind(0, what, 10 + what);
                Checks.due("as in kind, " + what, x.kind(0, what), 10 + what);
            }
        });
        int[] low = {1, 0, 1};
        int[] high = {99, 20, 200};
        Document.holds("value: the new value, within its bounds", () -> {
            FadingSignals x = Checks.loaded(Refusals.fullHouse());
            for (int what = 0; what < 3; what++) {
                for (int value : new int[] {low[what], low[what] + 1, high[what] - 1, high[what]}) {
                    x.setKind(7, what, value);
                    Checks.due("what " + what, x.kind(7, what), value);
                }
            }
        });
        Document.holds("Returns the previous value.", () -> {
            FadingSignals x = Checks.loaded("hall 1 0 50 12;kind a 9 1 50");
            int[] first = {9, 1, 50};
            for (int what = 0; what < 3; what++) {
                Checks.due("that of the text, " + what, x.setKind(0, what, high[what]), first[what]);
                Checks.due("the greatest, " + what, x.setKind(0, what, low[what]), high[what]);
                Checks.due("the least, " + what, x.setKind(0, what, low[what]), low[what]);
            }
        });
        Document.holds(NO_TEXT, () -> Refusals.withoutText(x -> x.setKind(0, 0, 5)));
        Document.holds("Throws IndexOutOfBoundsException if there is no such kind",
                () -> Refusals.noSuchKind((x, kind) -> x.setKind(kind, 1, 5)));
        Document.holds("Throws IllegalArgumentException if what or value is out of range", () -> {
            Refusals.outOfRange(0, 2, (x, what) -> x.setKind(2, what, 5));
            for (int what = 0; what < 3; what++) {
                int which = what;
                Refusals.outOfRange(low[what], high[what], (x, value) -> x.setKind(2, which, value));
            }
        });
    }

    private static void set() {
        Document.section("Promise 46: set");
        Document.holds("Sets a setting. This is a change.", () -> {
            isChange(x -> x.set(0, 4));
            isChange(x -> x.set(1, 50));
            isChange(x -> x.set(2, 1));
        });
        Document.holds("what: 0 DEPTH, 1 NEST, 2 REST (CAP cannot be set; handlers that run already stay)", () -> {
            FadingSignals x = Checks.loaded("hall 1 2 3 4;kind a 9 0 9;program p");
            for (int what = 0; what < 3; what++) {
                x.set(what, 2 + what);
            }
            Checks.due("these three alone", x.setting(0) + " " + x.setting(1) + " " + x.setting(2) + " "
                    + x.setting(3), "2 3 4 4");
            Checks.argument("CAP, with its own value", () -> x.set(3, 4));
            Checks.argument("CAP", () -> x.set(3, 1));
            FadingSignals four = fourRunning();
            four.set(0, 1);
            Checks.due("four stay", four.program(0, 1), 4);
            four.set(1, 50);
            Checks.due("four stay", four.program(0, 1), 4);
            four.tick(1);
            Checks.due("and go on", four.program(0, 1) + " " + four.count(7), "3 1");
        });
        int[] low = {1, 0, 1};
        int[] high = {4, 50, 50};
        Document.holds("value: the new value, within its bounds", () -> {
            FadingSignals x = Checks.loaded("hall 2 2 2 2");
            for (int what = 0; what < 3; what++) {
                for (int value : new int[] {low[what], low[what] + 1, high[what] - 1, high[what]}) {
                    x.set(what, value);
                    Checks.due("what " + what, x.setting(what), value);
                }
            }
        });
        Document.holds("Returns the previous value.", () -> {
            FadingSignals x = Checks.loaded("hall 2 3 4 5");
            for (int what = 0; what < 3; what++) {
                Checks.due("that of the text, " + what, x.set(what, high[what]), 2 + what);
                Checks.due("the greatest, " + what, x.set(what, low[what]), high[what]);
                Checks.due("the least, " + what, x.set(what, low[what]), low[what]);
            }
        });
        Document.holds(NO_TEXT, () -> Refusals.withoutText(x -> x.set(0, 1)));
        Document.holds("Throws IllegalArgumentException if what or value is out of range", () -> {
            Refusals.outOfRange(0, 2, (x, what) -> x.set(what, 1));
            for (int what = 0; what < 3; what++) {
                int which = what;
                Refusals.outOfRange(low[what], high[what], (x, value) -> x.set(which, value));
            }
        });
    }

    private static FadingSignals ticked(int ticks) {
        FadingSignals x = Checks.loaded("hall 1 0 50 12;kind a 9 0 9;program p");
        for (int i = 0; i < ticks; i++) {
            x.tick(1);
        }
        return x;
    }

    private static void undo() {
        Document.section("Promise 47: undo");
        Document.holds("Undoes the latest change that has not been undone.", () -> {
            FadingSignals x = ticked(3);
            x.undo();
            Checks.due("the latest one", x.count(3), 2);
            x.undo();
            Checks.due("the latest one that has not been undone", x.count(3), 1);
            x.tick(7);
            x.undo();
            Checks.due("a new one, and not those that were undone", x.count(3), 1);
            x.undo();
            Checks.due("the first one", x.count(3), 0);
        });
        Document.holds("Returns the number of changes that can still be undone.", () -> {
            for (int changes : new int[] {1, 2, 7, 8, 9, 16, 17}) {
                FadingSignals x = ticked(changes);
                for (int left = Math.min(8, changes) - 1; left >= 0; left--) {
                    Checks.due(changes + " changes", x.undo(), left);
                }
            }
        });
        Document.holds("Throws IllegalStateException if there is none", () -> {
            Checks.state("a new object", () -> new FadingSignals().undo());
            for (int changes : new int[] {0, 1, 8, 9}) {
                FadingSignals x = ticked(changes);
                for (int i = Math.min(8, changes); i > 0; i--) {
                    x.undo();
                }
                for (int i = 0; i < 2; i++) {
                    Checks.state(changes + " changes undone", () -> x.undo());
                    Checks.due("nothing is changed", x.count(3) + " " + x.undoable(), changes - Math.min(8, changes)
                            + " 0");
                }
                x.tick(5);
                Checks.due("the next change can be undone", x.undo(), 0);
            }
            FadingSignals restored = ticked(3);
            restored.save(0);
            restored.restore(0);
            Checks.state("behind restore", () -> restored.undo());
            FadingSignals loaded = ticked(3);
            Checks.load(loaded, "hall 1 0 1 1");
            Checks.state("behind load", () -> loaded.undo());
        });
    }

    private static void undoable() {
        Document.section("Promise 48: undoable");
        Document.holds("Returns the number of changes that can be undone, 0 to 8.", () -> {
            Checks.due("a new object", new FadingSignals().undoable(), 0);
            FadingSignals x = ticked(0);
            for (int changes = 0; changes <= 20; changes++) {
                Checks.due(changes + " changes", x.undoable(), Math.min(8, changes));
                x.tick(1);
            }
            for (int left = 7; left >= 0; left--) {
                x.undo();
                Checks.due("undone", x.undoable(), left);
            }
            Checks.outcome(() -> x.undo());
            Checks.due("not below 0", x.undoable(), 0);
        });
    }

    private static void save() {
        Document.section("Promise 49: save");
        Document.holds("Saves the hall with all that is told of it (but the input buffer, parseError(),"
                + " errorPosition() and what can be"
                + " undone) in a slot, in place of what was saved there.", () -> {
            for (int slot = 0; slot < 2; slot++) {
                FadingSignals x = Refusals.sample();
                x.save(slot);
                Checks.due("save is no change", x.undoable(), Refusals.CHANGES);
                x.undo();
                x.tick(200);
                Checks.outcome(() -> x.load(0));
                Checks.append(x, "c");
                Checks.append(x, "b");
                Checks.due("in place of what was saved there", x.restore(slot), 4);
                Checks.due("all that is told of it", Checks.told(x), Checks.told(Refusals.sample()));
                Checks.due("but the buffer, and its error", x.buffered() + " " + x.parseError() + " "
                        + x.errorPosition(), "40 1 0");
                Checks.due("and what can be undone", x.undoable(), 0);
                Checks.due("the bytes of the buffer", x.find(true, 1), 2);
            }
            FadingSignals both = Refusals.sample();
            both.save(0);
            both.tick(10);
            Checks.due("the other slot stays", both.restore(1), 3);
            Checks.due("each its own", both.restore(0), 4);
        });
        Document.holds("slot: 0 or 1", () -> {
            FadingSignals x = ticked(1);
            x.save(0);
            x.tick(1);
            x.save(1);
            x.tick(1);
            Checks.due("0", x.restore(0), 1);
            Checks.due("1", x.restore(1), 2);
        });
        Document.holds("Returns the time.", () -> {
            FadingSignals x = ticked(0);
            Checks.due("0", x.save(1), 0);
            for (int i = 0; i < 49; i++) {
                x.tick(200);
            }
            x.tick(199);
            Checks.due("9999", x.save(1), 9999);
        });
        Document.holds(NO_TEXT, () -> Refusals.withoutText(x -> x.save(0)));
        Document.holds(NO_SLOT, () -> Refusals.noSuchIndex(2, (x, slot) -> x.save(slot)));
    }

    private static void restore() {
        Document.section("Promise 50: restore");
        Document.holds("Restores what was saved in a slot; it stays saved.", () -> {
            FadingSignals x = Refusals.sample();
            x.save(1);
            String want = Checks.told(Refusals.sample());
            x.tick(50);
            x.restore(1);
            x.tick(60);
            x.clear(0);
            Checks.due("once more, behind changes", x.restore(1), 4);
            Checks.due("whole", Checks.told(x), want);
            Checks.due("and at once again", x.restore(1), 4);
        });
        Document.holds("Nothing can be undone afterwards.", () -> {
            FadingSignals x = ticked(20);
            x.save(0);
            x.tick(1);
            x.restore(0);
            Checks.due("undoable", x.undoable(), 0);
            Checks.state("undo", () -> x.undo());
            Checks.due("the time stays", x.count(3), 20);
            x.tick(1);
            Checks.due("a change behind it", x.undo() + " " + x.count(3), "0 20");
        });
        Document.holds("slot: 0 or 1", () -> {
            FadingSignals x = ticked(1);
            x.save(1);
            x.tick(1);
            x.save(0);
            x.tick(1);
            Checks.due("1", x.restore(1), 1);
            Checks.due("0", x.restore(0), 2);
        });
        Document.holds("Returns the time in the restored state.", () -> {
            FadingSignals x = ticked(0);
            x.save(0);
            x.tick(200);
            Checks.due("0", x.restore(0) + x.count(3), 0);
            for (int i = 0; i < 49; i++) {
                x.tick(200);
            }
            x.tick(199);
            x.save(1);
            x.restore(0);
            Checks.due("9999", x.restore(1) + x.count(3), 2 * 9999);
            Checks.argument("no tick more", () -> x.tick(1));
        });
        Document.holds(NO_SLOT, () -> {
            Refusals.noSuchIndex(2, (x, slot) -> x.restore(slot));
            FadingSignals x = new FadingSignals();
            for (int slot : new int[] {-1, 2, Integer.MIN_VALUE, Integer.MAX_VALUE}) {
                Checks.index("a new object, " + slot, () -> x.restore(slot));
            }
        });
        Document.holds("Throws IllegalStateException if nothing is saved there", () -> {
            Checks.state("a new object", () -> new FadingSignals().restore(0));
            for (int slot = 0; slot < 2; slot++) {
                int other = 1 - slot;
                int same = slot;
                FadingSignals x = ticked(3);
                x.save(same);
                Checks.state("the other slot", () -> x.restore(other));
                Checks.due("nothing is changed", x.count(3) + " " + x.undoable(), "3 3");
                Checks.load(x, "hall 1 0 1 1");
                Checks.state("load leaves nothing saved", () -> x.restore(same));
            }
        });
    }
}
