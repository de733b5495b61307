/** Promises 19 to 26: looks. */
public final class LookTest {
    public static void main(String[] args) {
        nextAndMasks();
        busiest();
        tiredest();
        oldest();
        loser();
        waits();
        oneEnd();
        raisers();
        Checks.close("LookTest");
    }

    private static void nextAndMasks() {
        FadingSignals x = Checks.loaded("hall 1 0 50 12;kind a 10 0 200;kind b 20 0 200;kind c 10 0 9;program p"
                + ";program q;send p a 1;send p c 1;send p b 1;send p b 2");
        Checks.due("promise 19: the most urgent", x.next(0), 2);
        x.mask(0, 1, true);
        Checks.due("promise 19: not the masked kind; of several the smallest number", x.next(0), 0);
        x.mask(0, 0, true);
        Checks.due("promise 19: not the masked kinds", x.next(0), 1);
        x.mask(0, 2, true);
        Checks.due("promise 19: all masked", x.next(0), -1);
        Checks.due("promise 19: an empty queue", x.next(1), -1);
        Checks.index("promise 19: below", () -> x.next(-1));
        Checks.index("promise 19: above", () -> x.next(2));
    }

    private static void busiest() {
        FadingSignals x = Checks.loaded("hall 1 0 50 12;kind a 10 0 200;program p;program q;program r");
        Checks.due("promise 20: all empty", x.busiest(), 0);
        x.send(2, 0, 1);
        Checks.due("promise 20: one has most", x.busiest(), 2);
        x.send(1, 0, 1);
        Checks.due("promise 20: of several the smallest", x.busiest(), 1);
        Checks.due("promise 20: no programs", Checks.loaded("hall 1 0 1 1;kind a 1 1 1").busiest(), -1);
    }

    private static void tiredest() {
        FadingSignals x = Checks.loaded("hall 1 0 50 12;kind a 90 5 200;kind b 80 5 200;kind c 70 6 9;program p"
                + ";program q;handle p a 1;handle p b 1;handle p c 1");
        Checks.due("promise 21: none at all", x.tiredest(0), 0);
        x.send(0, 1, 1);
        x.tick(1);
        Checks.due("promise 21: one", x.tiredest(0), 1);
        x.send(0, 0, 1);
        x.tick(1);
        Checks.due("promise 21: of several the smallest", x.tiredest(0), 0);
        x.send(0, 2, 1);
        x.tick(1);
        Checks.due("promise 21: the greatest", x.tiredest(0), 2);
        Checks.due("promise 21: of another program", x.tiredest(1), 0);
        Checks.due("promise 21: no kinds", Checks.loaded("hall 1 0 1 1;program p").tiredest(0), -1);
        Checks.index("promise 21: below", () -> x.tiredest(-1));
        Checks.index("promise 21: above", () -> x.tiredest(2));
    }

    private static void oldest() {
        FadingSignals x = Checks.loaded("hall 1 0 50 12;kind a 10 0 200;kind b 20 0 9;program p;program q");
        Checks.due("promise 22: none", x.oldest(), -1);
        x.send(1, 0, 1);
        x.send(0, 0, 1);
        x.send(0, 1, 1);
        Checks.due("promise 22: of all queues", x.oldest(), 0);
        x.drop(0);
        Checks.due("promise 22: not by the order", x.oldest(), 1);
        x.drop(1);
        Checks.due("promise 22: the last one", x.oldest(), 2);
        FadingSignals y = Checks.loaded("hall 1 0 50 12;kind a 10 0 200;program p;handle p a 9;send p a 1;send p a 2");
        y.tick(1);
        Checks.due("promise 22: not one that is handled now", y.oldest(), 1);
    }

    private static void loser() {
        FadingSignals x = Checks.loaded("hall 1 0 50 3;kind a 10 0 200;kind b 20 0 9;kind c 5 0 9;kind d 10 0 9"
                + ";program p;program q;send p a 1;send p b 2");
        Checks.due("promise 23: there is room", x.loser(0, 2), -1);
        x.send(0, 0, 3);
        Checks.due("promise 23: a more urgent one", x.loser(0, 1), 2);
        Checks.due("promise 23: a less urgent one", x.loser(0, 2), 3);
        Checks.due("promise 23: one of the same kind", x.loser(0, 0), 3);
        Checks.due("promise 23: one of the same urgency", x.loser(0, 3), 3);
        Checks.due("promise 23: another program", x.loser(1, 2), -1);
        x.mask(0, 0, true);
        Checks.due("promise 23: masks do not matter", x.loser(0, 1), 2);
        Checks.due("promise 23: nothing is changed", x.count(4), 3);
        Checks.index("promise 23: program below", () -> x.loser(-1, 0));
        Checks.index("promise 23: program above", () -> x.loser(2, 0));
        Checks.index("promise 23: kind below", () -> x.loser(0, -1));
        Checks.index("promise 23: kind above", () -> x.loser(0, 4));
    }

    private static void waits() {
        FadingSignals x = Checks.loaded("hall 1 0 50 12;kind a 50 1 200;kind b 20 0 4;program p;program q"
                + ";handle p a 2;send p a 1;send p a 2;send p a 3;send q b 1");
        Checks.due("promise 24: none", x.meanWait(), 0.0);
        Checks.due("promise 25: none", x.handledShare(), 0.0f);
        x.tick(1);
        Checks.due("promise 24: none handled", x.meanWait(), 0.0);
        Checks.due("promise 25: none handled", x.handledShare(), 0.0f);
        x.tick(1);
        Checks.due("promise 24: 2", x.meanWait(), 2.0);
        Checks.due("promise 25: 1 of 2", x.handledShare(), 0.5f);
        x.tick(2);
        Checks.due("promise 24: 2 and 4", x.meanWait(), 3.0);
        Checks.due("promise 25: 2 of 3", x.handledShare(), 2.0f / 3.0f);
        x.tick(1);
        x.send(0, 0, 1);
        x.tick(1);
        Checks.due("promise 24: 2, 4 and 6", x.meanWait(), 4.0);
        x.tick(2);
        Checks.due("promise 24: 2, 4, 6 and 3", x.meanWait(), 15.0 / 4.0);
        Checks.due("promise 25: 4 of 5", x.handledShare(), 4.0f / 5.0f);
    }

    private static void oneEnd() {
        FadingSignals x = Checks.loaded("hall 1 0 50 12;kind a 50 1 200;program p;handle p a 1;send p a 1");
        x.tick(1);
        Checks.due("promise 24: the only one", x.meanWait(), 1.0);
        Checks.due("promise 25: all", x.handledShare(), 1.0f);
    }

    private static void raisers() {
        FadingSignals x = Checks.loaded("hall 1 0 50 12;kind a 50 1 200;kind b 20 0 4;kind c 1 1 1;program p;program q"
                + ";program r;handle p a 2 mask c raise a q 1;handle q b 1 raise a q 3;handle r c 1 raise b p 0 mask a"
                + ";handle r a 1 drop c");
        Checks.due("promise 26: two", x.raisers(0), 3);
        Checks.due("promise 26: the third", x.raisers(1), 4);
        Checks.due("promise 26: none", x.raisers(2), 0);
        Checks.index("promise 26: below", () -> x.raisers(-1));
        Checks.index("promise 26: above", () -> x.raisers(3));
    }
}
