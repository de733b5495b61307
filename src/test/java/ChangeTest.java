/** Promises 39 to 50: changes, undo, save and restore. */
public final class ChangeTest {
    private static final String TEXT = "hall 3 2 5 3;kind a 20 8 30;kind b 30 5 30;kind c 9 9 3;program p;program q"
            + ";handle p a 3 raise b q 7;handle p b 2;handle q b 2;send p a 100;send q a 5";

    public static void main(String[] args) {
        tick();
        timeBound();
        send();
        mask();
        drop();
        dropFromBelow();
        clear();
        refresh();
        setKind();
        set();
        setWhileRunning();
        undo();
        undoOfEach();
        undoOfManyEnds();
        onlyEight();
        exceptionsAreNoChange();
        saveAndRestore();
        saveIsNoChange();
        Checks.close("ChangeTest");
    }

    private static void tick() {
        FadingSignals x = Checks.loaded(TEXT);
        Checks.due("promise 39: ends by one tick", x.tick(1), 1);
        Checks.due("promise 39: the time", x.count(3), 1);
        Checks.due("promise 39: ends by one more", x.tick(1), 0);
        Checks.due("promise 39: ends by three", x.tick(3), 2);
        Checks.due("promise 39: the time", x.count(3), 5);
        Checks.due("promise 39: a change each", x.undoable(), 3);
        Checks.argument("promise 39: below", () -> x.tick(0));
        Checks.argument("promise 39: far below", () -> x.tick(Integer.MIN_VALUE));
        Checks.argument("promise 39: above", () -> x.tick(201));
        Checks.argument("promise 39: far above", () -> x.tick(Integer.MAX_VALUE));
        Checks.due("promise 39: nothing changed by that", x.count(3), 5);
        Checks.due("promise 39: the most", x.tick(200), 0);
        Checks.due("promise 39: the time", x.count(3), 205);
        FadingSignals y = Checks.loaded("hall 1 0 50 2;kind a 9 0 200;program p;handle p a 1 drop a raise a p 0 raise a p 0"
                + " raise a p 0;send p a 1;send p a 2");
        Checks.due("promise 39: all ends count, handled, dropped and full", y.tick(1), 3);
    }

    private static void timeBound() {
        FadingSignals x = Checks.loaded(TEXT);
        for (int i = 0; i < 49; i++) {
            x.tick(200);
        }
        Checks.argument("promise 39: 10000", () -> x.tick(200));
        Checks.due("promise 39: to 9999", Checks.outcome(() -> x.tick(199)), 0);
        Checks.due("promise 39: the time", x.count(3), 9999);
        Checks.argument("promise 39: 10000", () -> x.tick(1));
        Checks.due("promise 39: nothing changed", x.count(3), 9999);
        x.undo();
        Checks.due("promise 39: 9800 again", x.count(3), 9800);
    }

    private static void send() {
        FadingSignals x = Checks.loaded(TEXT);
        Checks.due("promise 40: its number", x.send(0, 2, 999), 2);
        Checks.due("promise 40: the next number", x.send(1, 0, 0), 3);
        Checks.due("promise 40: its kind", x.queue(0, 1, 1), 2);
        Checks.due("promise 40: sent by nobody", x.queue(0, 1, 2), -1);
        Checks.due("promise 40: its value", x.queue(0, 1, 3), 999);
        Checks.due("promise 40: its time", x.queue(0, 1, 4), 0);
        x.tick(1);
        Checks.due("promise 40: a number of one that is lost at once",
                x.send(0, 0, 1) + x.send(0, 0, 1) + x.send(0, 2, 1), 4 + 5 + 6);
        Checks.due("promise 40: the last one in the order is lost", x.whereIs(6), 23);
        Checks.due("promise 40: the older one stays", x.whereIs(2), 0);
        Checks.due("promise 40: a more urgent one", x.send(0, 1, 1), 7);
        Checks.due("promise 40: another one is lost", x.whereIs(2), 23);
        Checks.due("promise 40: at this time", x.end(0, 2), 1);
        Checks.due("promise 40: a change each", x.undoable(), 7);
        Checks.index("promise 40: program below, before value", () -> x.send(-1, 0, -1));
        Checks.index("promise 40: program above", () -> x.send(2, 0, 0));
        Checks.index("promise 40: kind below", () -> x.send(0, -1, 1000));
        Checks.index("promise 40: kind above", () -> x.send(0, 3, 0));
        Checks.argument("promise 40: value below", () -> x.send(0, 0, -1));
        Checks.argument("promise 40: value above", () -> x.send(0, 0, 1000));
        Checks.due("promise 40: nothing changed by that", x.count(4), 8);
    }

    private static void mask() {
        FadingSignals x = Checks.loaded(TEXT);
        Checks.due("promise 41: it was not", x.mask(0, 1, true), false);
        Checks.due("promise 41: it is", x.program(0, 2), 2);
        Checks.due("promise 41: it was", x.mask(0, 1, true), true);
        Checks.due("promise 41: another one", x.mask(0, 2, true), false);
        Checks.due("promise 41: both are", x.program(0, 2), 6);
        Checks.due("promise 41: of the other program none", x.program(1, 2), 0);
        Checks.due("promise 41: out of it", x.mask(0, 1, false), true);
        Checks.due("promise 41: one is left", x.program(0, 2), 4);
        Checks.due("promise 41: out of it again", x.mask(0, 1, false), false);
        Checks.due("promise 41: a change each", x.undoable(), 5);
        Checks.index("promise 41: program below", () -> x.mask(-1, 0, true));
        Checks.index("promise 41: program above", () -> x.mask(2, 0, true));
        Checks.index("promise 41: kind below", () -> x.mask(0, -1, true));
        Checks.index("promise 41: kind above", () -> x.mask(0, 3, true));
        Checks.due("promise 41: nothing changed by that", x.undoable(), 5);
    }

    private static void drop() {
        FadingSignals x = Checks.loaded(TEXT);
        x.tick(1);
        x.send(0, 2, 1);
        Checks.due("promise 42: in a queue", x.drop(2), 0);
        Checks.due("promise 42: it has its end", x.end(0, 1), 5);
        Checks.due("promise 42: its number", x.end(0, 0), 2);
        Checks.due("promise 42: the queue", x.program(0, 0), 0);
        Checks.due("promise 42: running", x.drop(0), 1);
        Checks.due("promise 42: its end", x.whereIs(0), 25);
        Checks.due("promise 42: the program", x.end(0, 3), 0);
        Checks.due("promise 42: the stack", x.program(0, 1), 0);
        Checks.due("promise 42: nobody is tired", x.tiredness(0, 0), 0);
        Checks.due("promise 42: without its acts", x.count(4), 3);
        Checks.due("promise 42: not handled", x.program(0, 6), 0);
        Checks.due("promise 42: with another end", x.program(0, 7), 2);
        Checks.due("promise 42: neither", x.drop(0), 2);
        Checks.due("promise 42: neither", x.drop(1), 2);
        Checks.due("promise 42: counted once", x.count(12), 2);
        Checks.due("promise 42: a change each, also if it is neither", x.undoable(), 6);
        Checks.due("promise 42: no acts later", x.tick(9), 0);
        Checks.index("promise 42: below", () -> x.drop(-1));
        Checks.index("promise 42: not sent", () -> x.drop(3));
    }

    private static void dropFromBelow() {
        FadingSignals x = Checks.loaded("hall 4 0 50 3;kind a 10 1 200;kind b 20 1 200;kind c 30 1 200;program p"
                + ";handle p a 9;handle p b 8;handle p c 7;send p a 1");
        x.tick(1);
        x.send(0, 1, 2);
        x.tick(1);
        x.send(0, 2, 3);
        x.tick(1);
        Checks.due("promise 42: from the middle", x.drop(1), 1);
        Checks.due("promise 42: two stay", x.program(0, 1), 2);
        Checks.due("promise 42: the top stays", x.running(0, 0, 0), 2);
        Checks.due("promise 42: its level stays", x.running(0, 0, 2), 30);
        Checks.due("promise 42: what is left of it stays", x.running(0, 0, 3), 6);
        Checks.due("promise 42: the one below stays", x.running(0, 1, 0), 0);
        Checks.due("promise 42: what is left of it stays", x.running(0, 1, 3), 8);
        Checks.due("promise 42: from the bottom", x.drop(0), 1);
        Checks.due("promise 42: one stays", x.running(0, 0, 4), 3);
        Checks.due("promise 42: it goes on", x.tick(6), 1);
    }

    private static void clear() {
        FadingSignals x = Checks.loaded("hall 3 2 5 9;kind a 20 8 30;kind b 30 5 30;program p;program q;handle p a 5"
                + ";send p a 1;send q a 1;send p a 2;send p b 3;send p a 4");
        x.mask(0, 1, true);
        x.tick(1);
        Checks.due("promise 43: how many", x.clear(0), 3);
        Checks.due("promise 43: the queue is empty", x.program(0, 0), 0);
        Checks.due("promise 43: running handlers stay", x.program(0, 1), 1);
        Checks.due("promise 43: by numbers", x.end(0, 0), 4);
        Checks.due("promise 43: by numbers", x.end(1, 0), 3);
        Checks.due("promise 43: by numbers", x.end(2, 0), 2);
        Checks.due("promise 43: dropped", x.count(12), 3);
        Checks.due("promise 43: none", x.clear(0), 0);
        Checks.due("promise 43: a change, also then", x.undoable(), 4);
        Checks.index("promise 43: below", () -> x.clear(-1));
        Checks.index("promise 43: above", () -> x.clear(2));
    }

    private static void refresh() {
        FadingSignals x = Checks.loaded("hall 3 2 50 9;kind a 20 8 30;kind b 30 5 30;program p;program q;handle p a 1"
                + ";handle p b 1;handle q a 1;send p a 1;send p b 1;send q a 1");
        Checks.due("promise 44: none", x.refresh(0), 0);
        x.tick(2);
        Checks.due("promise 44: the sum", x.refresh(0), 13);
        Checks.due("promise 44: of one kind none is left", x.tiredness(0, 0), 0);
        Checks.due("promise 44: of the other neither", x.tiredness(0, 1), 0);
        Checks.due("promise 44: the other program stays tired", x.tiredness(1, 0), 8);
        Checks.due("promise 44: nothing more", x.refresh(0), 0);
        Checks.due("promise 44: a change each", x.undoable(), 4);
        Checks.index("promise 44: below", () -> x.refresh(-1));
        Checks.index("promise 44: above", () -> x.refresh(2));
    }

    private static void setKind() {
        FadingSignals x = Checks.loaded(TEXT);
        int[][] old = {{20, 8, 30}, {30, 5, 30}, {9, 9, 3}};
        int[] low = {1, 0, 1};
        int[] high = {99, 20, 200};
        for (int k = 0; k < 3; k++) {
            for (int w = 0; w < 3; w++) {
                int kind = k;
                int what = w;
                Checks.due("promise 45: the previous value", x.setKind(k, w, low[w]), old[k][w]);
                Checks.due("promise 45: the least one", x.kind(k, w), low[w]);
                Checks.due("promise 45: the previous value", x.setKind(k, w, high[w]), low[w]);
                Checks.due("promise 45: the greatest one", x.kind(k, w), high[w]);
                Checks.argument("promise 45: value below", () -> x.setKind(kind, what, low[what] - 1));
                Checks.argument("promise 45: value above", () -> x.setKind(kind, what, high[what] + 1));
                Checks.due("promise 45: nothing changed by that", x.kind(k, w), high[w]);
            }
        }
        Checks.index("promise 45: kind below, before what", () -> x.setKind(-1, 9, 1));
        Checks.index("promise 45: kind above, before value", () -> x.setKind(3, 0, 0));
        Checks.argument("promise 45: what below", () -> x.setKind(0, -1, 5));
        Checks.argument("promise 45: what above", () -> x.setKind(0, 3, 5));
        FadingSignals y = Checks.loaded("hall 1 0 50 9;kind a 20 8 30;program p;handle p a 1;send p a 1;send p a 2");
        y.setKind(0, 1, 3);
        y.tick(1);
        Checks.due("promise 45: FADE is used", y.tiredness(0, 0), 3);
        y.setKind(0, 2, 2);
        y.mask(0, 0, true);
        Checks.due("promise 45: KEEP is used", y.tick(1), 1);
        Checks.due("promise 45: KEEP is used", y.whereIs(1), 22);
        y.setKind(0, 0, 50);
        Checks.due("promise 45: URGENCY is used", y.urgency(0, 0), 47);
    }

    private static void set() {
        FadingSignals x = Checks.loaded(TEXT);
        int[] old = {3, 2, 5};
        int[] low = {1, 0, 1};
        int[] high = {4, 50, 50};
        for (int w = 0; w < 3; w++) {
            int what = w;
            Checks.due("promise 46: the previous value", x.set(w, low[w]), old[w]);
            Checks.due("promise 46: the least one", x.setting(w), low[w]);
            Checks.due("promise 46: the previous value", x.set(w, high[w]), low[w]);
            Checks.due("promise 46: the greatest one", x.setting(w), high[w]);
            Checks.argument("promise 46: value below", () -> x.set(what, low[what] - 1));
            Checks.argument("promise 46: value above", () -> x.set(what, high[what] + 1));
            Checks.due("promise 46: nothing changed by that", x.setting(w), high[w]);
        }
        Checks.argument("promise 46: CAP cannot be set", () -> x.set(3, 5));
        Checks.argument("promise 46: what below", () -> x.set(-1, 1));
        Checks.argument("promise 46: what far above", () -> x.set(Integer.MAX_VALUE, 1));
        Checks.due("promise 46: a change each", x.undoable(), 6);
    }

    private static void setWhileRunning() {
        FadingSignals x = Checks.loaded("hall 3 0 50 9;kind a 10 0 99;kind b 20 0 99;kind c 30 0 99;program p"
                + ";handle p a 5;handle p b 5;handle p c 2;send p a 1");
        x.tick(1);
        x.send(0, 1, 1);
        x.tick(1);
        x.set(0, 1);
        Checks.due("promise 46: handlers that run already stay", x.program(0, 1), 2);
        x.send(0, 2, 1);
        x.tick(1);
        Checks.due("promise 46: DEPTH is used", x.program(0, 1), 2);
        x.set(0, 3);
        x.set(1, 10);
        x.tick(1);
        Checks.due("promise 46: NEST is used", x.program(0, 1), 2);
        x.set(1, 9);
        x.tick(1);
        Checks.due("promise 46: NEST is used", x.program(0, 1), 3);
        FadingSignals y = Checks.loaded("hall 3 0 50 9;kind a 90 10 99;program p;handle p a 1;send p a 1");
        y.tick(1);
        y.set(2, 2);
        y.tick(4);
        Checks.due("promise 46: REST is used", y.tiredness(0, 0), 8);
    }

    private static void undo() {
        FadingSignals x = Checks.loaded(TEXT);
        Checks.due("promise 48: none", x.undoable(), 0);
        Checks.state("promise 47: none", () -> x.undo());
        x.tick(1);
        x.send(0, 2, 3);
        x.mask(0, 2, true);
        Checks.due("promise 48: three", x.undoable(), 3);
        Checks.due("promise 47: two are left", x.undo(), 2);
        Checks.due("promise 47: the latest one first", x.program(0, 2), 0);
        Checks.due("promise 47: the one before stays", x.count(4), 3);
        Checks.due("promise 47: one is left", x.undo(), 1);
        Checks.due("promise 47: the signal was not sent", x.count(4), 2);
        Checks.index("promise 47: its number is none again", () -> x.whereIs(2));
        x.send(1, 2, 4);
        Checks.due("promise 48: two again", x.undoable(), 2);
        Checks.due("promise 47: the new one", x.undo(), 1);
        Checks.due("promise 47: none is left", x.undo(), 0);
        Checks.due("promise 47: the time", x.count(3), 0);
        Checks.due("promise 47: in the queue again", x.whereIs(1), 1);
        Checks.due("promise 47: no end", x.count(13), 0);
        Checks.state("promise 47: none", () -> x.undo());
    }

    private static FadingSignals busy() {
        FadingSignals x = Checks.loaded(TEXT);
        x.tick(4);
        x.send(0, 1, 5);
        x.send(0, 0, 6);
        x.tick(1);
        return x;
    }

    private static void undoOfEach() {
        String[] names = {"tick", "send", "mask", "drop from a queue", "drop from a stack", "clear", "refresh", "setKind",
            "set", "several"};
        for (int i = 0; i < names.length; i++) {
            FadingSignals x = busy();
            String before = Checks.told(x);
            int changes = x.undoable();
            change(x, i);
            Checks.due("promise 47: " + names[i] + " shows", Checks.told(x).equals(before), false);
            for (int more = x.undoable() - changes; more > 0; more--) {
                x.undo();
            }
            Checks.due("promise 47: " + names[i] + " is undone", Checks.told(x), before);
            Checks.due("promise 48: as many as before", x.undoable(), changes);
        }
    }

    private static void undoOfManyEnds() {
        FadingSignals x = Checks.loaded("hall 1 0 50 2;kind a 20 0 30;program p;handle p a 1 raise a p 1;send p a 5");
        x.send(0, 0, 7);
        x.drop(1);
        x.tick(2);
        x.save(0);
        String before = Checks.told(x);
        Checks.due("promise 39: more ends than can be told", x.tick(100), 100);
        x.undo();
        Checks.due("promise 47: the ends that can be told", Checks.told(x), before);
        x.tick(100);
        x.restore(0);
        Checks.due("promise 50: the ends that can be told", Checks.told(x), before);
    }

    private static void change(FadingSignals x, int i) {
        switch (i) {
            case 0:
                x.tick(7);
                break;
            case 1:
                x.send(1, 2, 3);
                break;
            case 2:
                x.mask(1, 1, true);
                break;
            case 3:
                x.drop(x.queue(0, 0, 0));
                break;
            case 4:
                x.drop(x.running(0, 0, 0));
                break;
            case 5:
                x.clear(0);
                break;
            case 6:
                x.refresh(0);
                break;
            case 7:
                x.setKind(1, 0, 31);
                break;
            case 8:
                x.set(2, 6);
                break;
            default:
                x.send(0, 1, 1);
                x.send(0, 1, 1);
                x.send(0, 1, 1);
                x.tick(1);
                break;
        }
    }

    private static void onlyEight() {
        FadingSignals x = Checks.loaded(TEXT);
        for (int i = 1; i <= 11; i++) {
            x.tick(1);
            Checks.due("promise 48: behind " + i, x.undoable(), Math.min(i, 8));
        }
        for (int left = 7; left >= 0; left--) {
            Checks.due("promise 47: left", x.undo(), left);
            Checks.due("promise 47: the time", x.count(3), 3 + left);
        }
        Checks.state("promise 47: the ninth", () -> x.undo());
        Checks.due("promise 47: the time stays", x.count(3), 3);
        for (int i = 0; i < 5; i++) {
            x.tick(2);
        }
        Checks.due("promise 48: five", x.undoable(), 5);
        Checks.due("promise 47: four", x.undo(), 4);
        Checks.due("promise 47: the time", x.count(3), 11);
    }

    private static void exceptionsAreNoChange() {
        FadingSignals x = busy();
        x.writeEnds();
        String before = Checks.told(x);
        int changes = x.undoable();
        Checks.outcome(() -> x.tick(0));
        Checks.outcome(() -> x.send(0, 0, 1000));
        Checks.outcome(() -> x.mask(0, 9, true));
        Checks.outcome(() -> x.drop(99));
        Checks.outcome(() -> x.clear(9));
        Checks.outcome(() -> x.refresh(9));
        Checks.outcome(() -> x.setKind(0, 0, 0));
        Checks.outcome(() -> x.set(0, 0));
        Checks.outcome(() -> x.restore(0));
        Checks.outcome(() -> x.save(2));
        Checks.outcome(() -> x.load(9));
        Checks.due("an exception changes nothing", Checks.told(x), before);
        Checks.due("an exception is no change", x.undoable(), changes);
    }

    private static void saveAndRestore() {
        FadingSignals x = busy();
        String first = Checks.told(x);
        Checks.due("promise 49: the time", x.save(1), 5);
        x.tick(3);
        x.set(1, 9);
        x.setKind(0, 0, 77);
        String second = Checks.told(x);
        Checks.due("promise 49: the time", x.save(0), 8);
        x.clear(0);
        x.tick(50);
        Checks.due("promise 50: the time", x.restore(1), 5);
        Checks.due("promise 50: all that is told", Checks.told(x), first);
        Checks.due("promise 50: nothing can be undone", x.undoable(), 0);
        Checks.state("promise 50: nothing can be undone", () -> x.undo());
        x.tick(9);
        Checks.due("promise 50: the other slot", x.restore(0), 8);
        Checks.due("promise 50: all that is told", Checks.told(x), second);
        x.tick(1);
        Checks.due("promise 50: it stays saved", x.restore(1), 5);
        Checks.due("promise 50: it stays saved, whole", Checks.told(x), first);
        x.tick(1);
        Checks.due("promise 49: in place of what was saved there", x.save(1), 6);
        x.restore(0);
        Checks.due("promise 50: the later one", x.restore(1), 6);
        FadingSignals y = Checks.loaded(TEXT);
        Checks.index("promise 49: slot below", () -> y.save(-1));
        Checks.index("promise 49: slot above", () -> y.save(2));
        Checks.index("promise 50: slot below", () -> y.restore(-1));
        Checks.index("promise 50: slot above", () -> y.restore(2));
        y.tick(1);
        y.save(0);
        Checks.state("promise 50: nothing is saved there", () -> y.restore(1));
        Checks.due("promise 50: that changes nothing", y.undoable(), 1);
    }

    private static void saveIsNoChange() {
        FadingSignals x = Checks.loaded(TEXT);
        Checks.append(x, "b");
        x.save(0);
        Checks.due("promise 49: is no change", x.undoable(), 0);
        x.tick(1);
        x.save(1);
        Checks.due("promise 49: is no change", x.undoable(), 1);
        Checks.argument("an error", () -> x.load(1));
        Checks.append(x, "b");
        x.undo();
        Checks.due("promise 49: undo leaves what is saved", x.restore(1), 1);
        Checks.due("promise 50: the buffer stays", x.buffered(), 20);
        Checks.due("promise 50: parseError stays", x.parseError(), 1);
        Checks.due("promise 50: errorPosition stays", x.errorPosition(), 0);
        Checks.due("promise 50: the names stay", x.find(true, 1), 1);
    }
}
