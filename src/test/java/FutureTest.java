/** Promises 27 to 34: what would be, if only ticks passed. */
public final class FutureTest {
    public static void main(String[] args) {
        idle();
        idleBounds();
        calm();
        endsOfSignals();
        endTypes();
        endBounds();
        endsIn();
        urgencyIn();
        sentIn();
        bestMask();
        bestMaskBounds();
        nothingChanges();
        behindTheBoundOfTime();
        Checks.close("FutureTest");
    }

    private static void idle() {
        FadingSignals x = Checks.loaded("hall 2 5 4 2;kind a 20 8 30;kind b 30 5 30;kind c 9 9 3;program p;program q"
                + ";handle p a 3 raise b q 7;handle p b 1 mask a;handle q b 2 drop a unmask b;send p a 100;send q a 5");
        Checks.due("promise 27: a handler of 3 ticks", x.idleIn(0), 3);
        Checks.due("promise 27: idle for the first time", x.idleIn(1), 1);
        Checks.due("promise 28: all at once", x.calmIn(), 4);
        x.tick(1);
        Checks.due("promise 27: idle now", x.idleIn(1), 0);
        Checks.due("promise 28: behind a tick", x.calmIn(), 3);
        Checks.index("promise 27: below", () -> x.idleIn(-1));
        Checks.index("promise 27: above", () -> x.idleIn(2));
    }

    private static void idleBounds() {
        FadingSignals x = Checks.loaded("hall 1 0 50 2;kind a 20 0 200;program p;program q;hide p a;send p a 1");
        Checks.due("promise 27: exactly 200", x.idleIn(0), 200);
        Checks.due("promise 28: exactly 200", x.calmIn(), 200);
        Checks.due("promise 29: exactly 200", x.endIn(0), 200);
        Checks.due("promise 30: lost by its age", x.endOf(0), 2);
        Checks.due("promise 27: the other is idle", x.idleIn(1), 0);
        // One that waits for 200 ticks behind another: 199 of its own and 2 of the handler.
        FadingSignals y = Checks.loaded("hall 1 0 50 2;kind a 20 0 200;kind b 1 0 200;program p;handle p a 20 raise a p 0"
                + ";send p a 1;send p b 1");
        Checks.due("promise 27: not within 200", y.idleIn(0), -1);
        Checks.due("promise 28: not within 200", y.calmIn(), -1);
        Checks.due("promise 29: the first one", y.endIn(0), 20);
        Checks.due("promise 29: 200, by its age", y.endIn(1), 200);
    }

    private static void calm() {
        Checks.due("promise 28: no programs", Checks.loaded("hall 1 0 1 1").calmIn(), 0);
        FadingSignals x = Checks.loaded("hall 1 0 50 2;kind a 20 0 200;kind b 9 0 9;program p;program q"
                + ";handle p a 1 raise a q 0;handle q a 1 raise a p 0;send p a 1");
        Checks.due("promise 27: the sender is idle in 1", x.idleIn(0), -1);
        Checks.due("promise 27: the other is idle now", x.idleIn(1), 0);
        Checks.due("promise 28: never at once", x.calmIn(), -1);
        FadingSignals y = Checks.loaded("hall 1 0 50 2;kind a 20 0 5;program p;program q;hide q a;send q a 1");
        Checks.due("promise 28: the last program matters", y.calmIn(), 5);
    }

    private static void endsOfSignals() {
        FadingSignals x = Checks.loaded("hall 2 5 4 2;kind a 20 8 30;kind b 30 5 30;program p;program q"
                + ";handle p a 3 raise b q 7;handle q b 2;send p a 100;send q a 5");
        Checks.due("promise 29: in a queue", x.endIn(0), 3);
        Checks.due("promise 30: in a queue", x.endOf(0), 0);
        Checks.due("promise 29: without a handler", x.endIn(1), 1);
        Checks.due("promise 30: without a handler", x.endOf(1), 4);
        x.tick(1);
        Checks.due("promise 29: by a running handler", x.endIn(0), 2);
        Checks.due("promise 30: by a running handler", x.endOf(0), 0);
        Checks.due("promise 29: has its end", x.endIn(1), -1);
        Checks.due("promise 30: has its end", x.endOf(1), -1);
        Checks.index("promise 29: below", () -> x.endIn(-1));
        Checks.index("promise 29: not sent", () -> x.endIn(2));
        Checks.index("promise 30: below", () -> x.endOf(-1));
        Checks.index("promise 30: not sent", () -> x.endOf(2));
    }

    private static void endTypes() {
        FadingSignals x = Checks.loaded("hall 2 5 50 2;kind a 20 0 30;kind b 1 5 30;kind c 2 0 30;program p;program q"
                + ";handle p a 3 drop b raise c q 0 raise c q 1;handle q b 1;hide q c;hide p b;send p a 1;send p b 1"
                + ";send q b 1;send q c 1");
        Checks.due("promise 30: dropped by an act", x.endOf(1), 5);
        Checks.due("promise 29: dropped by an act", x.endIn(1), 3);
        Checks.due("promise 30: handled", x.endOf(2), 0);
        x.tick(1);
        x.send(1, 1, 1);
        Checks.due("promise 29: fades", x.endIn(4), 1);
        Checks.due("promise 30: fades", x.endOf(4), 1);
        x.mask(1, 1, true);
        Checks.due("promise 29: lost by a full queue", x.endIn(4), 2);
        Checks.due("promise 30: lost by a full queue", x.endOf(4), 3);
        Checks.due("promise 29: lost by its age", x.endIn(3), 29);
        Checks.due("promise 30: lost by its age", x.endOf(3), 2);
    }

    private static void endBounds() {
        FadingSignals x = Checks.loaded("hall 2 0 50 2;kind a 20 0 200;kind b 30 0 200;program p;handle p a 2"
                + ";handle p b 20 raise b p 0;send p a 1");
        x.tick(1);
        x.send(0, 1, 1);
        Checks.due("promise 29: none within 200", x.endIn(0), -1);
        Checks.due("promise 30: none within 200", x.endOf(0), -1);
        Checks.due("promise 29: the one above it", x.endIn(1), 20);
    }

    private static void endsIn() {
        FadingSignals x = Checks.loaded("hall 2 5 4 2;kind a 20 8 30;kind b 30 5 30;program p;program q"
                + ";handle p a 3 raise b q 7;handle q b 2;send p a 100;send q a 5");
        Checks.due("promise 31: handled behind 2", x.endsIn(0, 2), 0);
        Checks.due("promise 31: handled behind 3", x.endsIn(0, 3), 1);
        Checks.due("promise 31: handled behind 200", x.endsIn(0, 200), 2);
        Checks.due("promise 31: without a handler behind 1", x.endsIn(4, 1), 1);
        Checks.due("promise 31: without a handler behind 0", x.endsIn(4, 0), 0);
        x.tick(1);
        Checks.due("promise 31: only more", x.endsIn(4, 100), 0);
        Checks.due("promise 31: dropped", x.endsIn(5, 100), 0);
        Checks.argument("promise 31: end below", () -> x.endsIn(-1, 0));
        Checks.argument("promise 31: end above", () -> x.endsIn(6, 0));
        Checks.argument("promise 31: ticks below", () -> x.endsIn(0, -1));
        Checks.argument("promise 31: ticks above", () -> x.endsIn(0, 201));
        Checks.argument("promise 31: ticks far above", () -> x.endsIn(0, Integer.MAX_VALUE));
    }

    private static void urgencyIn() {
        FadingSignals x = Checks.loaded("hall 2 5 4 2;kind a 20 8 30;kind b 30 5 30;program p;handle p a 3;send p a 1");
        Checks.due("promise 32: now", x.urgencyIn(0, 0, 0), 20);
        Checks.due("promise 32: behind 2", x.urgencyIn(0, 0, 2), 20);
        Checks.due("promise 32: behind 3", x.urgencyIn(0, 0, 3), 12);
        Checks.due("promise 32: behind 4", x.urgencyIn(0, 0, 4), 13);
        Checks.due("promise 32: behind 200", x.urgencyIn(0, 0, 200), 20);
        Checks.due("promise 32: another kind", x.urgencyIn(0, 1, 3), 30);
        Checks.index("promise 32: program below, before ticks", () -> x.urgencyIn(-1, 0, -1));
        Checks.index("promise 32: program above", () -> x.urgencyIn(1, 0, 0));
        Checks.index("promise 32: kind below", () -> x.urgencyIn(0, -1, 201));
        Checks.index("promise 32: kind above", () -> x.urgencyIn(0, 2, 0));
        Checks.argument("promise 32: ticks below", () -> x.urgencyIn(0, 0, -1));
        Checks.argument("promise 32: ticks above", () -> x.urgencyIn(0, 0, 201));
    }

    private static void sentIn() {
        FadingSignals x = Checks.loaded("hall 2 5 50 1;kind a 20 0 30;kind b 30 5 30;program p;program q"
                + ";handle p a 3 raise b q 7 raise b q 8 raise a p 0;send p a 1;send p a 2");
        Checks.due("promise 33: behind 0", x.sentIn(0), 0);
        Checks.due("promise 33: behind 2", x.sentIn(2), 0);
        Checks.due("promise 33: behind 3, also those lost at once", x.sentIn(3), 3);
        Checks.due("promise 33: behind 200", x.sentIn(200), 198);
        Checks.argument("promise 33: below", () -> x.sentIn(-1));
        Checks.argument("promise 33: above", () -> x.sentIn(201));
    }

    private static void bestMask() {
        // b has no handler: masked, its signals wait behind the 50 ticks; the same with a loses none, but b is lost.
        FadingSignals x = Checks.loaded("hall 1 0 50 12;kind a 20 0 200;kind b 10 0 200;program p;program q;handle p a 1"
                + ";send p a 1;send p b 2;send p b 3");
        Checks.due("promise 34: the kind whose signals are lost", x.bestMask(0), 1);
        Checks.due("promise 34: of several the smallest", x.bestMask(1), 0);
        x.mask(0, 1, true);
        Checks.due("promise 34: not one in the mask", x.bestMask(0), 0);
        x.mask(0, 0, true);
        Checks.due("promise 34: all in the mask", x.bestMask(0), -1);
        Checks.due("promise 34: no kinds", Checks.loaded("hall 1 0 1 1;program p").bestMask(0), -1);
        Checks.index("promise 34: below", () -> x.bestMask(-1));
        Checks.index("promise 34: above", () -> x.bestMask(2));
        // Signals that are sent in the ticks count, too: masking a stops p from sending b to q.
        FadingSignals y = Checks.loaded("hall 1 0 50 12;kind a 20 0 200;kind b 10 0 200;program p;handle p a 1"
                + " raise b p 0;send p a 1");
        Checks.due("promise 34: also those that are sent in them", y.bestMask(0), 0);
        // An act takes b out again, so the two of b are lost all the same; in the mask, c alone stays.
        FadingSignals z = Checks.loaded("hall 1 0 50 12;kind a 20 0 200;kind b 10 0 200;kind c 9 0 200;program p"
                + ";handle p a 2 unmask b;send p a 1;send p b 1;send p b 1;send p c 1");
        Checks.due("promise 34: an act can take it out again", z.bestMask(0), 2);
        z.drop(0);
        Checks.due("promise 34: without the act", z.bestMask(0), 1);
    }

    private static void bestMaskBounds() {
        // Masked, a is lost by its age at 50, b at 51: only the first one is within 50 ticks.
        FadingSignals x = Checks.loaded("hall 1 0 50 12;kind a 20 0 50;kind b 10 0 51;program p;send p a 1;send p b 1");
        Checks.due("promise 34: within 50 ticks", x.bestMask(0), 1);
        x.setKind(0, 2, 51);
        Checks.due("promise 34: behind 50 ticks", x.bestMask(0), 0);
        // What ended before counts for none of them, and other programs do not count.
        FadingSignals y = Checks.loaded("hall 1 0 50 12;kind a 20 0 200;kind b 10 0 200;program p;program q;send q a 1"
                + ";send q a 1;send p b 1");
        Checks.due("promise 34: signals sent to this program alone", y.bestMask(0), 1);
    }

    private static void nothingChanges() {
        FadingSignals x = Checks.loaded("hall 1 0 3 12;kind a 20 4 200;kind b 10 0 200;program p;handle p a 1"
                + " raise a p 0 mask b;send p a 1;send p b 1");
        x.tick(2);
        x.idleIn(0);
        x.calmIn();
        x.endIn(2);
        x.endOf(2);
        x.endsIn(0, 100);
        x.urgencyIn(0, 0, 100);
        x.sentIn(100);
        x.bestMask(0);
        Checks.due("what would be: the time", x.count(3), 2);
        Checks.due("what would be: signals sent", x.count(4), 4);
        Checks.due("what would be: ends", x.count(13), 2);
        Checks.due("what would be: tiredness", x.tiredness(0, 0), 8);
        Checks.due("what would be: the mask", x.program(0, 2), 2);
        Checks.due("what would be: changes", x.undoable(), 1);
        Checks.due("what would be: the queue", x.program(0, 0), 2);
    }

    private static void behindTheBoundOfTime() {
        FadingSignals x = Checks.loaded("hall 1 0 50 12;kind a 20 0 200;kind b 10 7 200;program p;handle p b 7"
                + " raise a p 0;hide p a");
        for (int i = 0; i < 49; i++) {
            x.tick(200);
        }
        x.tick(199);
        Checks.argument("promise 39: behind 9999", () -> x.tick(1));
        x.send(0, 1, 1);
        Checks.due("promise 29: behind 9999", x.endIn(0), 7);
        Checks.due("promise 30: behind 9999", x.endOf(0), 0);
        Checks.due("promise 27: behind 9999", x.idleIn(0), -1);
        Checks.due("promise 28: behind 9999", x.calmIn(), -1);
        Checks.due("promise 31: behind 9999", x.endsIn(0, 200), 1);
        // A multiple of REST is at 10000, the first tick; the tiredness of 7 comes in the seventh.
        Checks.due("promise 32: behind 9999", x.urgencyIn(0, 1, 50), 3);
        Checks.due("promise 32: behind 10049", x.urgencyIn(0, 1, 51), 4);
        Checks.due("promise 33: behind 9999", x.sentIn(200), 1);
        Checks.due("promise 34: behind 9999", x.bestMask(0), 1);
    }
}
