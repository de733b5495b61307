/** What stands under Terms: the order of a tick, ages, fading, nesting, acts, full queues. */
public final class TickTest {
    public static void main(String[] args) {
        rest();
        ages();
        agesByNumbers();
        fading();
        fadingNeedsAnEmptyStack();
        noHandler();
        nesting();
        nestingAsksTheFirstAlone();
        depth();
        oneBeginsInATick();
        tirednessBounds();
        tiredBeforeActs();
        raising();
        raisingToEarlierPrograms();
        masksByActs();
        dropsByActs();
        fullQueues();
        Checks.close("TickTest");
    }

    private static void rest() {
        FadingSignals x = Checks.loaded("hall 1 0 3 9;kind a 50 10 99;kind b 60 1 99;program p;program q;handle p a 1"
                + ";handle p b 1;handle q a 1;send p a 1;send q a 1");
        x.tick(2);
        Checks.due("rest: before the first one", x.tiredness(0, 0), 10);
        x.tick(1);
        Checks.due("rest: at 3", x.tiredness(0, 0), 9);
        Checks.due("rest: all programs", x.tiredness(1, 0), 9);
        Checks.due("rest: not below 0", x.tiredness(0, 1), 0);
        x.send(0, 1, 1);
        x.tick(2);
        Checks.due("rest: not between", x.tiredness(0, 0), 9);
        x.tick(1);
        Checks.due("rest: at 6", x.tiredness(0, 0), 8);
        Checks.due("rest: all kinds", x.tiredness(0, 1), 0);
        x.send(0, 0, 1);
        x.tick(3);
        // It is rested first and tired behind that, in the ticks 7, 8 and 9.
        Checks.due("rest: at 9", x.tiredness(0, 0), 17);
        FadingSignals y = Checks.loaded("hall 1 0 1 9;kind a 50 10 99;program p;handle p a 1;send p a 1");
        y.tick(1);
        Checks.due("rest: comes before the handlers of the tick", y.tiredness(0, 0), 10);
        y.tick(20);
        Checks.due("rest: down to 0", y.tiredness(0, 0), 0);
    }

    private static void ages() {
        FadingSignals x = Checks.loaded("hall 1 0 50 9;kind a 50 0 3;kind b 60 0 1;program p;hide p a;send p a 1");
        x.tick(1);
        x.send(0, 0, 2);
        x.tick(1);
        Checks.due("age: not before KEEP ticks", x.program(0, 0), 2);
        x.tick(1);
        Checks.due("age: KEEP ticks ago", x.whereIs(0), 22);
        Checks.due("age: its time", x.end(0, 2), 3);
        Checks.due("age: the later one", x.whereIs(1), 0);
        x.tick(1);
        Checks.due("age: the later one, too", x.whereIs(1), 22);
        x.send(0, 1, 1);
        x.tick(1);
        Checks.due("age: before it is looked for", x.whereIs(2), 22);
        FadingSignals y = Checks.loaded("hall 1 0 50 9;kind a 50 0 2;program p;handle p a 5;send p a 1");
        y.tick(5);
        Checks.due("age: of those in queues alone", y.whereIs(0), 20);
    }

    private static void agesByNumbers() {
        FadingSignals x = Checks.loaded("hall 1 0 50 9;kind a 10 0 3;kind b 60 0 3;kind c 5 0 9;program p;hide p a;hide p b"
                + ";hide p c;send p a 1;send p b 2;send p c 3;send p a 4");
        x.tick(3);
        Checks.due("age: by numbers, not in the order", Checks.written(x, x.writeEnds()), "3a 1a 0a");
        Checks.due("age: one stays", x.queue(0, 0, 0), 2);
    }

    private static void fading() {
        FadingSignals x = Checks.loaded("hall 1 0 50 9;kind a 9 5 99;kind b 3 0 99;program p;handle p a 1;send p a 1"
                + ";send p a 2;send p a 3;send p a 4;send p b 5");
        x.tick(1);
        Checks.due("fading: tired by one", x.urgency(0, 0), 4);
        x.tick(1);
        Checks.due("fading: tired by two", x.urgency(0, 0), 0);
        Checks.due("fading: three are left", x.program(0, 0), 3);
        x.tick(1);
        Checks.due("fading: all in one tick, in the order", Checks.written(x, x.writeEnds()), "3f 2f 4n 1h 0h");
    }

    private static void fadingNeedsAnEmptyStack() {
        FadingSignals x = Checks.loaded("hall 4 0 50 9;kind a 9 9 99;kind b 3 0 99;program p;handle p a 1;handle p b 3"
                + ";send p a 1");
        x.tick(1);
        x.send(0, 1, 1);
        x.tick(1);
        x.send(0, 0, 1);
        x.tick(1);
        Checks.due("fading: not above a running handler", x.whereIs(2), 0);
        x.tick(1);
        Checks.due("fading: not in the tick in which it ends", x.whereIs(2), 0);
        x.tick(1);
        Checks.due("fading: then", x.whereIs(2), 21);
    }

    private static void noHandler() {
        FadingSignals x = Checks.loaded("hall 4 5 50 9;kind a 10 0 99;kind b 15 0 99;kind c 16 0 99;program p;handle p a 5"
                + ";send p a 1");
        x.tick(1);
        x.send(0, 1, 1);
        x.tick(1);
        Checks.due("no handler: it is not its turn", x.whereIs(1), 0);
        x.send(0, 2, 1);
        x.tick(1);
        Checks.due("no handler: more urgent", x.whereIs(2), 24);
        Checks.due("no handler: the next one is looked at, too", x.whereIs(1), 0);
        x.tick(2);
        Checks.due("no handler: the stack gets empty", x.whereIs(1), 0);
        x.tick(1);
        Checks.due("no handler: then", x.whereIs(1), 24);
    }

    private static void nesting() {
        FadingSignals x = Checks.loaded("hall 4 5 50 9;kind a 10 0 99;kind b 15 0 99;kind c 16 0 99;program p;handle p a 5"
                + ";handle p b 1;handle p c 2;send p a 1");
        x.tick(1);
        x.send(0, 1, 1);
        x.tick(1);
        Checks.due("nesting: not at level plus NEST", x.program(0, 1), 1);
        x.send(0, 2, 1);
        x.tick(1);
        Checks.due("nesting: above it", x.program(0, 1), 2);
        Checks.due("nesting: the one below waits", x.running(0, 1, 3), 3);
        Checks.due("nesting: the one above works", x.running(0, 0, 3), 1);
        x.setKind(0, 0, 1);
        x.tick(1);
        Checks.due("nesting: it is handled", x.whereIs(2), 20);
        Checks.due("nesting: the one below did not work in that tick", x.running(0, 0, 3), 3);
        x.tick(1);
        Checks.due("nesting: the level stays though the urgency is less", x.program(0, 1), 1);
        Checks.due("nesting: it goes on", x.running(0, 0, 3), 2);
    }

    private static void nestingAsksTheFirstAlone() {
        FadingSignals x = Checks.loaded("hall 2 0 50 9;kind a 10 0 99;kind b 10 0 99;kind c 9 0 99;program p;handle p a 3"
                + ";handle p b 1;send p a 1;send p b 1;send p c 1");
        x.tick(2);
        Checks.due("no other one is asked", x.program(0, 0), 2);
    }

    private static void depth() {
        FadingSignals x = Checks.loaded("hall 2 0 50 9;kind a 10 0 99;kind b 20 0 99;kind c 30 0 99;program p;handle p a 9"
                + ";handle p b 9;handle p c 1;send p a 1");
        x.tick(1);
        x.send(0, 1, 1);
        x.tick(1);
        x.send(0, 2, 1);
        x.tick(1);
        Checks.due("depth: no third one", x.program(0, 1), 2);
        Checks.due("depth: it waits", x.whereIs(2), 0);
        FadingSignals y = Checks.loaded("hall 4 0 50 9;kind a 10 0 99;kind b 20 0 99;kind c 30 0 99;kind d 40 0 99"
                + ";kind e 50 0 99;program o;program p;handle p a 9;handle p b 9;handle p c 9;handle p d 3;handle p e 1");
        for (int k = 0; k < 5; k++) {
            y.send(1, k, 10 * k);
            y.tick(1);
        }
        Checks.due("depth: four, not five", y.program(1, 1), 4);
        for (int i = 0; i < 4; i++) {
            Checks.due("depth: the stack", y.running(1, i, 4), 30 - 10 * i);
        }
        y.tick(1);
        Checks.due("depth: the fourth one is handled", y.end(0, 0), 3);
        y.tick(1);
        Checks.due("depth: the fifth one has its turn", y.end(0, 0), 4);
    }

    private static void oneBeginsInATick() {
        FadingSignals x = Checks.loaded("hall 4 0 50 9;kind a 10 0 99;kind b 20 0 99;program p;handle p a 1;handle p b 1"
                + ";send p a 1;send p b 1;send p a 2");
        Checks.due("one begins and ends in a tick", x.tick(1), 1);
        Checks.due("the most urgent first", x.whereIs(1), 20);
        Checks.due("one more", x.tick(1), 1);
        Checks.due("the smallest number first", x.whereIs(0), 20);
    }

    private static void tirednessBounds() {
        FadingSignals x = Checks.loaded("hall 1 0 50 12;kind a 99 20 99;program p;handle p a 1;send p a 1;send p a 1"
                + ";send p a 1;send p a 1;send p a 1;send p a 1");
        x.tick(5);
        Checks.due("tiredness: not above 99", x.tiredness(0, 0), 99);
        Checks.due("urgency: 0", x.urgency(0, 0), 0);
        x.tick(1);
        Checks.due("tiredness: so the sixth one fades", x.whereIs(5), 21);
        FadingSignals y = Checks.loaded("hall 1 0 50 12;kind a 99 20 99;kind b 98 19 99;program p;handle p a 1"
                + ";handle p b 1;send p a 1;send p b 1");
        y.tick(2);
        Checks.due("tiredness: for each kind", y.tiredness(0, 0) * 100 + y.tiredness(0, 1), 2019);
    }

    private static void tiredBeforeActs() {
        // Behind the handler a has the urgency 5, so the raised a is the last one of the queue and is lost.
        FadingSignals x = Checks.loaded("hall 1 0 50 1;kind a 10 5 99;kind b 7 0 99;program p;handle p a 2 raise a p 1"
                + ";send p a 1");
        x.tick(1);
        x.send(0, 1, 1);
        x.tick(1);
        Checks.due("tired, then the acts", x.whereIs(2), 23);
        Checks.due("handled, then the acts", x.end(1, 0), 0);
    }

    private static void raising() {
        FadingSignals x = Checks.loaded("hall 1 0 50 9;kind a 10 0 99;kind b 7 0 99;program p;program q"
                + ";handle p a 2 raise b q 7 raise a p 999 raise b q 0;handle q b 5;send p a 995");
        x.tick(2);
        Checks.due("raise: numbers in the order of acts", x.whereIs(1), 11);
        Checks.due("raise: at once in the queue of a later program", x.running(1, 0, 3), 4);
        Checks.due("raise: the value modulo 1000", x.running(1, 0, 4), 2);
        Checks.due("raise: to itself", x.queue(0, 0, 0), 2);
        Checks.due("raise: sent by this program", x.queue(0, 0, 2), 0);
        Checks.due("raise: the value", x.queue(0, 0, 3), 994);
        Checks.due("raise: the time", x.queue(0, 0, 4), 2);
        Checks.due("raise: plus 0", x.queue(1, 0, 3), 995);
        Checks.due("raise: counted for the sender", x.program(0, 5), 3);
        Checks.due("raise: counted for the receiver", x.program(1, 4), 2);
    }

    private static void raisingToEarlierPrograms() {
        FadingSignals x = Checks.loaded("hall 1 0 50 9;kind a 10 0 99;program p;program q;handle q a 1 raise a p 0"
                + ";handle p a 1;send q a 1");
        x.tick(1);
        Checks.due("raise: the turn of the earlier program is over", x.whereIs(1), 0);
        x.tick(1);
        Checks.due("raise: it looks in the next tick", x.whereIs(1), 20);
        Checks.due("raise: one tick between", x.end(0, 2), 2);
    }

    private static void masksByActs() {
        FadingSignals x = Checks.loaded("hall 1 0 50 9;kind a 10 0 99;kind b 9 0 99;program p;program q"
                + ";handle p a 1 mask b mask a;handle p b 1 unmask b;hide q a;hide q b;send p a 1;send p b 1;send p a 1");
        x.tick(1);
        Checks.due("mask: into the mask of this program", x.program(0, 2), 3);
        Checks.due("mask: not of another", x.program(1, 2), 3);
        x.tick(3);
        Checks.due("mask: none begins", x.program(0, 0), 2);
        x.mask(0, 1, false);
        x.tick(1);
        Checks.due("mask: the other kind is handled", x.whereIs(1), 20);
        Checks.due("unmask: out of it already", x.program(0, 2), 1);
        FadingSignals y = Checks.loaded("hall 1 0 50 9;kind a 10 0 99;kind b 9 0 99;program p;program q"
                + ";handle p a 1 unmask b;hide q b;hide p b;send p a 1;send p b 1");
        y.tick(1);
        Checks.due("unmask: out of the mask of this program", y.program(0, 2), 0);
        Checks.due("unmask: not of another", y.program(1, 2), 2);
        y.tick(1);
        Checks.due("unmask: the signal has its turn", y.whereIs(1), 24);
    }

    private static void dropsByActs() {
        FadingSignals x = Checks.loaded("hall 2 0 50 9;kind a 10 0 99;kind b 9 0 99;kind c 50 0 99;program p;program q"
                + ";handle p a 1 drop b raise b p 0;handle p c 4 drop a;hide q b;send p b 1;send p a 1;send p b 2;send q b 3"
                + ";send p b 4");
        Checks.due("drop: ends by the tick", x.tick(1), 4);
        Checks.due("drop: all of the kind, by numbers", Checks.written(x, x.writeEnds()), "4d 2d 0d 1h");
        Checks.due("drop: not of another program", x.whereIs(3), 1);
        Checks.due("drop: not those that are raised behind it", x.whereIs(5), 0);
        FadingSignals z = Checks.loaded("hall 2 0 50 9;kind a 10 0 99;kind b 9 0 99;kind c 50 0 99;program p"
                + ";handle p a 1 drop b;hide p c;send p c 1;send p b 1;send p a 1;send p c 2;send p b 2;send p c 3");
        z.tick(1);
        Checks.due("drop: between others", Checks.written(z, z.writeEnds()), "4d 1d 2h");
        Checks.due("drop: the others stay", Checks.written(z, z.writeQueue(0)), "0.c=1 3.c=2 5.c=3");
        FadingSignals y = Checks.loaded("hall 2 0 50 9;kind a 10 0 99;kind c 50 0 99;program p;handle p a 9"
                + ";handle p c 1 drop a;send p a 1");
        y.tick(1);
        y.send(0, 0, 1);
        y.send(0, 1, 1);
        y.tick(1);
        Checks.due("drop: running handlers stay", y.whereIs(0), 10);
        Checks.due("drop: the queue alone", y.whereIs(1), 25);
    }

    private static void fullQueues() {
        FadingSignals x = Checks.loaded("hall 1 0 50 2;kind a 10 6 99;kind b 9 0 99;kind c 10 0 99;program p;handle p a 1"
                + ";send p b 1;send p c 1;send p a 1;send p b 2;send p c 3");
        Checks.due("full: of several the greatest number is last", Checks.written(x, x.writeEnds()), "4q 3q 0q");
        Checks.due("full: two stay", x.program(0, 0), 2);
        FadingSignals y = Checks.loaded("hall 1 0 50 2;kind a 10 6 99;kind b 9 0 99;program p;handle p a 1;send p a 1");
        y.tick(1);
        y.send(0, 0, 1);
        y.send(0, 1, 1);
        y.send(0, 1, 1);
        Checks.due("full: by the urgency for the program", y.whereIs(1), 23);
    }
}
