/** Promises 8 to 18: what there is. */
public final class TellTest {
    private static final String TEXT = "hall 3 2 5 3;kind a 20 8 30;kind b 30 5 30;kind c 9 9 3;program p;program q"
            + ";handle p a 3 raise b q 7 mask c;handle p b 1 mask a unmask b drop c raise a p 999;handle q b 2 drop a"
            + ";hide q c;hide q a;send p a 100;send q a 5;send p c 6";

    public static void main(String[] args) {
        counts();
        settings();
        kinds();
        programs();
        handlers();
        urgencies();
        queues();
        runningHandlers();
        ends();
        places();
        Checks.close("TellTest");
    }

    private static void counts() {
        FadingSignals x = Checks.loaded(TEXT);
        int[] first = {3, 2, 3, 0, 3, 3, 0, 0, 0, 0, 0, 0, 0, 0};
        for (int what = 0; what < 14; what++) {
            Checks.due("promise 8: count " + what, x.count(what), first[what]);
        }
        Checks.argument("promise 8: what below", () -> x.count(-1));
        Checks.argument("promise 8: what above", () -> x.count(14));
        Checks.argument("promise 8: what far above", () -> x.count(Integer.MAX_VALUE));
        x.tick(1);
        Checks.due("promise 8: the time", x.count(3), 1);
        Checks.due("promise 8: in queues", x.count(5), 2);
        Checks.due("promise 8: running", x.count(6), 1);
        x.tick(2);
        Checks.due("promise 8: sent", x.count(4), 4);
        Checks.due("promise 8: handled", x.count(7), 1);
        Checks.due("promise 8: lost by age", x.count(9), 1);
        Checks.due("promise 8: ends that can be told", x.count(13), 2);
        x.drop(1);
        Checks.due("promise 8: dropped", x.count(12), 1);
    }

    private static void settings() {
        FadingSignals x = Checks.loaded("hall 3 2 5 7");
        int[] want = {3, 2, 5, 7};
        for (int what = 0; what < 4; what++) {
            Checks.due("promise 9: setting " + what, x.setting(what), want[what]);
        }
        Checks.argument("promise 9: what below", () -> x.setting(-1));
        Checks.argument("promise 9: what above", () -> x.setting(4));
        Checks.argument("promise 9: what far below", () -> x.setting(Integer.MIN_VALUE));
    }

    private static void kinds() {
        FadingSignals x = Checks.loaded(TEXT);
        int[][] want = {{20, 8, 30}, {30, 5, 30}, {9, 9, 3}};
        for (int k = 0; k < 3; k++) {
            for (int what = 0; what < 3; what++) {
                Checks.due("promise 10: kind " + k + " " + what, x.kind(k, what), want[k][what]);
            }
        }
        Checks.index("promise 10: kind below, before what", () -> x.kind(-1, 9));
        Checks.index("promise 10: kind above", () -> x.kind(3, 0));
        Checks.argument("promise 10: what below", () -> x.kind(0, -1));
        Checks.argument("promise 10: what above", () -> x.kind(2, 3));
    }

    private static void programs() {
        FadingSignals x = Checks.loaded(TEXT);
        int[][] want = {{2, 0, 0, 2, 2, 0, 0, 0}, {1, 0, 5, 1, 1, 0, 0, 0}};
        for (int p = 0; p < 2; p++) {
            for (int what = 0; what < 8; what++) {
                Checks.due("promise 11: program " + p + " " + what, x.program(p, what), want[p][what]);
            }
        }
        x.tick(1);
        Checks.due("promise 11: running handlers", x.program(0, 1), 1);
        x.tick(2);
        Checks.due("promise 11: its mask behind an act", x.program(0, 2), 4);
        Checks.due("promise 11: signals that it sent", x.program(0, 5), 1);
        Checks.due("promise 11: sent to the other", x.program(1, 4), 2);
        Checks.due("promise 11: sent by the other", x.program(1, 5), 0);
        Checks.due("promise 11: handled", x.program(0, 6), 1);
        Checks.due("promise 11: with another end", x.program(0, 7), 1);
        Checks.index("promise 11: program below, before what", () -> x.program(-1, 99));
        Checks.index("promise 11: program above", () -> x.program(2, 0));
        Checks.argument("promise 11: what below", () -> x.program(0, -1));
        Checks.argument("promise 11: what above", () -> x.program(1, 8));
        FadingSignals y = Checks.loaded("hall 1 0 1 1;kind a 5 0 9;program p;send p a 1;send p a 2");
        Checks.due("promise 11: sent to it counts what was lost at once", y.program(0, 4), 2);
        Checks.due("promise 11: lost at once", y.program(0, 7), 1);
        y.send(0, 0, 1);
        Checks.due("promise 11: sent to it counts calls", y.program(0, 4), 3);
        Checks.due("promise 11: a call is sent by nobody", y.program(0, 5), 0);
    }

    private static void handlers() {
        FadingSignals x = Checks.loaded(TEXT);
        int[] want = new int[50];
        java.util.Arrays.fill(want, -1);
        want[0] = 1;
        want[1] = 4;
        int[][] acts = {{1, 0, -1, -1}, {2, 1, -1, -1}, {3, 2, -1, -1}, {0, 0, 0, 999}};
        for (int act = 0; act < 4; act++) {
            System.arraycopy(acts[act], 0, want, 10 * act + 10, 4);
        }
        for (int what = 0; what < 50; what++) {
            Checks.due("promise 12: handler 0 1 " + what, x.handler(0, 1, what), want[what]);
            Checks.due("promise 12: no handler, " + what, x.handler(1, 0, what), -1);
        }
        Checks.due("promise 12: ticks", x.handler(0, 0, 0), 3);
        Checks.due("promise 12: acts", x.handler(0, 0, 1), 2);
        Checks.due("promise 12: the program of an act", x.handler(0, 0, 12), 1);
        Checks.due("promise 12: the kind of an act", x.handler(0, 0, 21), 2);
        Checks.due("promise 12: no third act", x.handler(0, 0, 30), -1);
        Checks.due("promise 12: another program", x.handler(1, 1, 10), 3);
        Checks.index("promise 12: program below", () -> x.handler(-1, 0, 99));
        Checks.index("promise 12: program above", () -> x.handler(2, 0, 0));
        Checks.index("promise 12: kind below", () -> x.handler(0, -1, -1));
        Checks.index("promise 12: kind above", () -> x.handler(0, 3, 50));
        Checks.argument("promise 12: what below", () -> x.handler(1, 0, -1));
        Checks.argument("promise 12: what above", () -> x.handler(0, 1, 50));
    }

    private static void urgencies() {
        FadingSignals x = Checks.loaded("hall 3 2 50 3;kind a 6 4 30;kind b 30 5 30;program p;program q;handle p a 1"
                + ";handle p b 1;handle q a 1");
        Checks.due("promise 13: at first", x.urgency(0, 0), 6);
        Checks.due("promise 14: at first", x.tiredness(0, 0), 0);
        x.send(0, 0, 1);
        x.tick(1);
        Checks.due("promise 13: behind one", x.urgency(0, 0), 2);
        Checks.due("promise 14: behind one", x.tiredness(0, 0), 4);
        Checks.due("promise 14: of another kind", x.tiredness(0, 1), 0);
        Checks.due("promise 14: of another program", x.tiredness(1, 0), 0);
        Checks.due("promise 13: of another program", x.urgency(1, 0), 6);
        x.send(0, 0, 1);
        x.tick(1);
        Checks.due("promise 13: not below 0", x.urgency(0, 0), 0);
        Checks.due("promise 14: behind two", x.tiredness(0, 0), 8);
        Checks.index("promise 13: program below", () -> x.urgency(-1, 0));
        Checks.index("promise 13: program above", () -> x.urgency(2, 0));
        Checks.index("promise 13: kind below", () -> x.urgency(0, -1));
        Checks.index("promise 13: kind above", () -> x.urgency(0, 2));
        Checks.index("promise 14: program below", () -> x.tiredness(-1, 0));
        Checks.index("promise 14: program above", () -> x.tiredness(2, 0));
        Checks.index("promise 14: kind below", () -> x.tiredness(0, -1));
        Checks.index("promise 14: kind above", () -> x.tiredness(0, 2));
    }

    private static void queues() {
        FadingSignals x = Checks.loaded("hall 1 0 50 12;kind a 10 9 200;kind b 12 3 200;kind c 10 1 200;program p"
                + ";program q;handle q a 1 raise c p 995;hide p a;hide p b;hide p c;send q a 7");
        x.tick(3);
        x.send(0, 0, 1);
        x.send(0, 1, 2);
        x.send(0, 0, 3);
        x.send(0, 1, 4);
        int[][] want = {{3, 1, -1, 2, 3}, {5, 1, -1, 4, 3}, {1, 2, 1, 2, 1}, {2, 0, -1, 1, 3}, {4, 0, -1, 3, 3}};
        for (int i = 0; i < want.length; i++) {
            for (int what = 0; what < 5; what++) {
                Checks.due("promise 15: queue 0 " + i + " " + what, x.queue(0, i, what), want[i][what]);
            }
        }
        // The order is that of the urgencies as they are when it is asked.
        x.setKind(0, 0, 50);
        Checks.due("promise 15: the order changes", x.queue(0, 0, 0), 2);
        Checks.due("promise 15: the order changes", x.queue(0, 2, 0), 3);
        Checks.index("promise 15: program below", () -> x.queue(-1, 0, 9));
        Checks.index("promise 15: program above", () -> x.queue(2, 0, 9));
        Checks.index("promise 15: index below, before what", () -> x.queue(0, -1, 9));
        Checks.index("promise 15: index above", () -> x.queue(0, 5, 0));
        Checks.index("promise 15: an empty queue", () -> x.queue(1, 0, 0));
        Checks.argument("promise 15: what below", () -> x.queue(0, 0, -1));
        Checks.argument("promise 15: what above", () -> x.queue(0, 4, 5));
    }

    private static void runningHandlers() {
        FadingSignals x = Checks.loaded("hall 3 2 50 3;kind a 10 9 200;kind b 20 3 200;program p;program q"
                + ";handle p a 9;handle p b 5;send p a 11");
        x.tick(2);
        x.send(0, 1, 22);
        x.tick(1);
        int[][] want = {{1, 1, 20, 4, 22}, {0, 0, 10, 7, 11}};
        for (int i = 0; i < 2; i++) {
            for (int what = 0; what < 5; what++) {
                Checks.due("promise 16: running 0 " + i + " " + what, x.running(0, i, what), want[i][what]);
            }
        }
        x.setKind(1, 0, 99);
        Checks.due("promise 16: a level stays", x.running(0, 0, 2), 20);
        Checks.index("promise 16: program below", () -> x.running(-1, 0, 9));
        Checks.index("promise 16: program above", () -> x.running(2, 0, 0));
        Checks.index("promise 16: index below, before what", () -> x.running(0, -1, 9));
        Checks.index("promise 16: index above", () -> x.running(0, 2, 0));
        Checks.index("promise 16: an empty stack", () -> x.running(1, 0, 0));
        Checks.argument("promise 16: what below", () -> x.running(0, 0, -1));
        Checks.argument("promise 16: what above", () -> x.running(0, 1, 5));
    }

    private static void ends() {
        FadingSignals x = Checks.loaded("hall 1 0 50 12;kind a 10 0 200;kind b 20 0 200;program p;program q");
        Checks.index("promise 17: no end yet, before what", () -> x.end(0, 9));
        x.tick(6);
        x.send(1, 1, 5);
        x.tick(1);
        int[] want = {0, 4, 7, 1, 1};
        for (int what = 0; what < 5; what++) {
            Checks.due("promise 17: end 0 " + what, x.end(0, what), want[what]);
        }
        Checks.index("promise 17: index below", () -> x.end(-1, 0));
        Checks.index("promise 17: index above, before what", () -> x.end(1, 9));
        Checks.argument("promise 17: what below", () -> x.end(0, -1));
        Checks.argument("promise 17: what above", () -> x.end(0, 5));
        for (int i = 1; i <= 39; i++) {
            x.send(0, 0, i);
            x.drop(i);
        }
        Checks.due("promise 17: forty can be told", x.count(13), 40);
        Checks.due("promise 17: the latest one", x.end(0, 0), 39);
        Checks.due("promise 17: the last one that can be told", x.end(39, 0), 0);
        Checks.due("promise 17: its type", x.end(39, 1), 4);
        x.send(0, 0, 1);
        x.drop(40);
        Checks.due("promise 17: still forty", x.count(13), 40);
        Checks.due("promise 17: the latest one", x.end(0, 0), 40);
        Checks.due("promise 17: the last one that can be told", x.end(39, 0), 1);
        Checks.due("promise 17: all are counted", x.count(12) + x.count(11), 41);
        Checks.index("promise 17: the 41st", () -> x.end(40, 0));
        Checks.due("promise 18: an end that can't be told", x.whereIs(0), -1);
        Checks.due("promise 18: the last end that can be told", x.whereIs(1), 25);
    }

    private static void places() {
        FadingSignals x = Checks.loaded("hall 3 2 50 3;kind a 10 9 200;kind b 20 3 200;program p;program q"
                + ";handle p a 9;handle q b 1;send p a 11;send q a 1;send q b 2;send p a 3;send q b 4");
        Checks.due("promise 18: in the queue of 0", x.whereIs(0), 0);
        Checks.due("promise 18: in the queue of 1", x.whereIs(1), 1);
        x.tick(1);
        Checks.due("promise 18: running at 0", x.whereIs(0), 10);
        Checks.due("promise 18: handled", x.whereIs(2), 20);
        Checks.due("promise 18: still in the queue", x.whereIs(3), 0);
        x.mask(1, 1, true);
        x.tick(1);
        Checks.due("promise 18: without a handler", x.whereIs(1), 24);
        x.drop(4);
        Checks.due("promise 18: dropped", x.whereIs(4), 25);
        Checks.index("promise 18: below", () -> x.whereIs(-1));
        Checks.index("promise 18: not sent yet", () -> x.whereIs(5));
        FadingSignals y = Checks.loaded("hall 1 0 50 12;kind a 9 0 50;program p;program q;handle q a 5;send q a 1");
        y.tick(1);
        Checks.due("promise 18: running at 1", y.whereIs(0), 11);
    }
}
