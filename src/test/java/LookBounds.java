/** Boundary cases of the promises 19 to 26: looks. */
final class LookBounds {
    private static final String NO_TEXT = "Throws IllegalStateException if no text was loaded";
    private static final String NO_PROGRAM = "Throws IndexOutOfBoundsException if there is no such program";

    private LookBounds() {
    }

    static void look() {
        next();
        busiest();
        tiredest();
        oldest();
        loser();
        meanWait();
        handledShare();
        raisers();
    }

    private static void next() {
        Document.section("Promise 19: next");
        String text = "hall 1 0 50 12;kind a 9 0 9;kind b 10 0 9;kind c 10 0 9;program p;program q";
        Document.holds("Returns the number of the first signal in the order of the queue whose kind is not in the mask"
                + ";", () -> {
            FadingSignals x = Checks.loaded(text + ";send q a 0;send q c 0;send q b 0;send q c 0;send q a 0");
            Checks.due("of several the smallest number", x.next(1), 1);
            x.mask(1, 2, true);
            Checks.due("the first and the last kind of the order masked", x.next(1), 2);
            x.mask(1, 1, true);
            Checks.due("two masked", x.next(1), 0);
            x.mask(1, 2, false);
            x.mask(0, 2, true);
            Checks.due("by its own mask", x.next(1), 1);
        });
        Document.holds("NONE if there is none.", () -> {
            FadingSignals x = Checks.loaded(text + ";send q a 0;send q b 0;hide q a");
            Checks.due("an empty queue", x.next(0), -1);
            Checks.due("one is not in the mask", x.next(1), 1);
            x.mask(1, 1, true);
            Checks.due("all in the mask", x.next(1), -1);
            Checks.due("no kinds", Checks.loaded("hall 1 0 1 1;program p").next(0), -1);
        });
        Document.holds(NO_TEXT, () -> Refusals.withoutText(x -> x.next(0)));
        Document.holds(NO_PROGRAM, () -> Refusals.noSuchProgram((x, program) -> x.next(program)));
    }

    private static void busiest() {
        Document.section("Promise 20: busiest");
        Document.holds("Returns the program with the most signals in its queue, of several the smallest number;",
                () -> {
            FadingSignals x = Checks.loaded(Refusals.fullHouse());
            Checks.due("all empty", x.busiest(), 0);
            for (int program = 5; program >= 0; program--) {
                x.send(program, 2, 0);
                Checks.due("as many as those behind it", x.busiest(), program);
            }
            x.send(5, 2, 0);
            Checks.due("the last one alone", x.busiest(), 5);
        });
        Document.holds("NONE without programs.", () -> {
            Checks.due("nothing at all", Checks.loaded("hall 1 0 1 1").busiest(), -1);
            Checks.due("kinds alone", Checks.loaded("hall 1 0 1 1;kind a 9 0 9").busiest(), -1);
            Checks.due("one program", Checks.loaded("hall 1 0 1 1;program p").busiest(), 0);
        });
        Document.holds(NO_TEXT, () -> Refusals.withoutText(x -> x.busiest()));
    }

    private static void tiredest() {
        Document.section("Promise 21: tiredest");
        Document.holds("Returns the kind for which a program has the greatest tiredness, of several the smallest"
                + " number;", () -> {
            StringBuilder text = new StringBuilder("hall 1 0 50 12;program q;program p");
            for (char kind = 'a'; kind <= 'h'; kind++) {
                text.append(";kind ").append(kind).append(" 50 1 99;handle p ").append(kind).append(" 1");
            }
            FadingSignals x = Checks.loaded(text.toString());
            Checks.due("tired of none", x.tiredest(1), 0);
            for (int kind = 7; kind >= 0; kind--) {
                x.send(1, kind, 0);
                x.tick(1);
                Checks.due("as tired as of those behind it", x.tiredest(1), kind);
            }
            x.send(1, 7, 0);
            x.tick(1);
            Checks.due("of the last one most", x.tiredest(1), 7);
            Checks.due("another program", x.tiredest(0), 0);
        });
        Document.holds("NONE without kinds.", () -> {
            Checks.due("none", Checks.loaded("hall 1 0 1 1;program p").tiredest(0), -1);
            Checks.due("one", Checks.loaded("hall 1 0 1 1;program p;kind a 9 0 9").tiredest(0), 0);
        });
        Document.holds(NO_TEXT, () -> Refusals.withoutText(x -> x.tiredest(0)));
        Document.holds(NO_PROGRAM, () -> Refusals.noSuchProgram((x, program) -> x.tiredest(program)));
    }

    private static void oldest() {
        Document.section("Promise 22: oldest");
        Document.holds("Returns the smallest number of a signal that is in a queue;", () -> {
            FadingSignals x = Checks.loaded("hall 1 0 50 12;kind a 9 0 99;kind b 50 0 99;program p;program q;program r"
                    + ";handle r a 9;send r a 0;send q a 0;send p a 0;send p b 0;send r a 0");
            Checks.due("0, in the last queue", x.oldest(), 0);
            x.mask(0, 0, true);
            x.mask(0, 1, true);
            x.mask(1, 0, true);
            x.tick(1);
            Checks.due("not the one of a running handler; masks do not matter", x.oldest(), 1);
            x.drop(1);
            Checks.due("not the first in the order", x.oldest(), 2);
            x.clear(0);
            Checks.due("behind the running one", x.oldest(), 4);
        });
        Document.holds("NONE if there is none.", () -> {
            FadingSignals x = Checks.loaded("hall 1 0 50 12;kind a 9 0 99;program p;handle p a 9;send p a 0");
            Checks.due("one", x.oldest(), 0);
            x.tick(1);
            Checks.due("one that is running alone", x.oldest(), -1);
            Checks.due("no programs", Checks.loaded("hall 1 0 1 1").oldest(), -1);
        });
        Document.holds(NO_TEXT, () -> Refusals.withoutText(x -> x.oldest()));
    }

    private static void loser() {
        Document.section("Promise 23: loser");
        String text = "hall 1 0 50 2;kind a 9 0 99;kind b 10 0 99;kind c 8 0 99;kind d 9 0 99;program p;program q";
        Document.holds("Returns the number of the signal that would be lost if a signal of a kind was sent to a"
                + " program now (the number that it would get, if it is this one);", () -> {
            FadingSignals x = Checks.loaded(text + ";send q a 0;send q a 0");
            int[] want = {2, 1, 2, 2};
            for (int kind = 0; kind < 4; kind++) {
                Checks.due("the same, greater, less, as great: kind " + kind, x.loser(1, kind), want[kind]);
            }
            Checks.due("nothing is sent by that", x.count(4), 2);
            for (int kind = 0; kind < 4; kind++) {
                x.send(1, kind, 0);
                Checks.due("it is so when it is sent", x.end(0, 0), want[kind]);
                x.undo();
            }
            FadingSignals tired = Checks.loaded("hall 1 0 50 1;kind a 5 20 99;kind b 10 20 99;program p;handle p a 1"
                    + ";handle p b 1;send p b 0");
            tired.tick(1);
            tired.send(0, 0, 0);
            tired.tick(1);
            tired.send(0, 0, 0);
            Checks.due("both of the urgency 0", tired.loser(0, 1), 3);
        });
        Document.holds("NONE if none would be.", () -> {
            FadingSignals x = Checks.loaded(text);
            Checks.due("an empty queue", x.loser(1, 2), -1);
            x.send(1, 0, 0);
            Checks.due("one less than CAP", x.loser(1, 2), -1);
            x.send(1, 0, 0);
            Checks.due("CAP", x.loser(1, 2), 2);
            Checks.due("another program", x.loser(0, 2), -1);
            FadingSignals twelve = Checks.loaded("hall 1 0 50 12;kind a 9 0 99;program p" + ";send p a 0".repeat(11));
            Checks.due("eleven of twelve", twelve.loser(0, 0), -1);
            twelve.send(0, 0, 0);
            Checks.due("twelve of twelve", twelve.loser(0, 0), 12);
        });
        Document.holds(NO_TEXT, () -> Refusals.withoutText(x -> x.loser(0, 0)));
        Document.holds("Throws IndexOutOfBoundsException if there is no such program or kind", () -> {
            Refusals.noSuchProgram((x, program) -> x.loser(program, 0));
            Refusals.noSuchKind((x, kind) -> x.loser(0, kind));
        });
    }

    private static void meanWait() {
        Document.section("Promise 24: meanWait");
        Document.holds("Returns the mean of the ticks from the sending to the end of all signals that are handled:"
                + " their sum, converted to double, divided by their number, converted to double;", () -> {
            String text = "hall 1 0 50 12;kind a 9 0 99;program p;handle p a 1";
            FadingSignals x = Checks.loaded(text + ";send p a 0".repeat(3));
            double[] want = {1.0, 1.5, 2.0};
            for (double mean : want) {
                x.tick(1);
                Checks.due("1, 2 and 3", x.meanWait(), mean);
            }
            x.send(0, 0, 0);
            x.tick(1);
            Checks.due("1, 2, 3 and 1", x.meanWait(), 7.0 / 4.0);
            for (int i = 0; i < 3; i++) {
                x.send(0, 0, 0);
            }
            x.tick(3);
            Checks.due("13 in 7", x.meanWait(), 13.0 / 7.0);
            FadingSignals y = Checks.loaded("hall 1 0 50 12;kind a 9 0 99;kind b 8 0 2;program p;handle p a 3;send p b"
                    + " 0;send p b 0");
            y.tick(5);
            y.send(0, 0, 0);
            y.tick(3);
            Checks.due("not from the time 0, and not those that are lost", y.meanWait(), 3.0);
        });
        Document.holds("0.0 without any.", () -> {
            FadingSignals x = Checks.loaded("hall 1 0 50 12;kind a 9 0 99;program p;send p a 0");
            Checks.due("no end at all", x.meanWait(), 0.0);
            x.tick(1);
            Checks.due("none handled", x.meanWait(), 0.0);
            Checks.due("a hall with nothing", Checks.loaded("hall 1 0 1 1").meanWait(), 0.0);
        });
        Document.holds(NO_TEXT, () -> Refusals.withoutText(x -> x.meanWait()));
    }

    private static void handledShare() {
        Document.section("Promise 25: handledShare");
        Document.holds("Returns the signals that are handled, converted to float, divided by all signals with an end,"
                + " converted to float;", () -> {
            FadingSignals x = Checks.loaded("hall 1 0 50 12;kind a 9 0 99;kind b 8 0 99;program p;handle p a 1;send p"
                    + " b 0;send p b 0;send p a 0");
            x.mask(0, 1, true);
            x.tick(1);
            Checks.due("all that have an end", x.handledShare(), 1.0f);
            x.drop(0);
            Checks.due("1 of 2", x.handledShare(), 0.5f);
            x.drop(1);
            Checks.due("1 of 3", x.handledShare(), 1.0f / 3.0f);
            for (int i = 0; i < 9; i++) {
                x.send(0, 0, 0);
            }
            x.tick(9);
            Checks.due("10 of 12", x.handledShare(), 10.0f / 12.0f);
            for (int i = 0; i < 50; i++) {
                x.send(0, 1, 0);
                x.drop(12 + i);
            }
            Checks.due("10 of 62, more than can be told", x.handledShare(), 10.0f / 62.0f);
        });
        Document.holds("0.0 without any.", () -> {
            FadingSignals x = Checks.loaded("hall 1 0 50 12;kind a 9 0 99;program p;send p a 0");
            Checks.due("no end at all", x.handledShare(), 0.0f);
            x.tick(1);
            Checks.due("none handled", x.handledShare(), 0.0f);
            Checks.due("a hall with nothing", Checks.loaded("hall 1 0 1 1").handledShare(), 0.0f);
        });
        Document.holds(NO_TEXT, () -> Refusals.withoutText(x -> x.handledShare()));
    }

    private static void raisers() {
        Document.section("Promise 26: raisers");
        Document.holds("Returns the programs, as a set, that have a handler with an act that raises a kind.", () -> {
            FadingSignals x = Checks.loaded("hall 1 0 50 12;kind a 9 0 99;kind b 8 0 99;kind c 8 0 99;program p"
                    + ";program q;handle p a 1 mask c unmask c drop c raise b q 0;handle q a 1 raise a p 0;handle q b"
                    + " 1 raise b"
                    + " q 0");
            Checks.due("the second program", x.raisers(0), 2);
            Checks.due("by the last act, and by the last handler", x.raisers(1), 3);
            Checks.due("none: other acts do not raise", x.raisers(2), 0);
            StringBuilder text = new StringBuilder("hall 1 0 50 12;kind a 9 0 99;kind b 9 0 99");
            for (char program = 'p'; program <= 'u'; program++) {
                text.append(";program ").append(program).append(";handle ").append(program).append(" b 1 raise a p 0"
                        + " raise a p 0");
            }
            FadingSignals all = Checks.loaded(text.toString());
            Checks.due("all six, and none", all.raisers(0) + " " + all.raisers(1), "63 0");
            Checks.due("no programs", Checks.loaded("hall 1 0 1 1;kind a 9 0 9").raisers(0), 0);
        });
        Document.holds(NO_TEXT, () -> Refusals.withoutText(x -> x.raisers(0)));
        Document.holds("Throws IndexOutOfBoundsException if there is no such kind",
                () -> Refusals.noSuchKind((x, kind) -> x.raisers(kind)));
    }
}
