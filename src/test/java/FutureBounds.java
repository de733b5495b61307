/** Boundary cases of the promises 27 to 34: what would be. */
final class FutureBounds {
    private static final String NO_TEXT = "Throws IllegalStateException if no text was loaded";
    private static final String NO_PROGRAM = "Throws IndexOutOfBoundsException if there is no such program";
    private static final String NO_SIGNAL = "Throws IndexOutOfBoundsException if there is no such signal";

    private FutureBounds() {
    }

    static void look() {
        idleIn();
        calmIn();
        endIn();
        endOf();
        endsIn();
        urgencyIn();
        sentIn();
        bestMask();
    }

    /** The second program gets idle just 201 ticks from now: its signal is sent in the first tick and stays for 200. */
    private static FadingSignals idleIn201() {
        return Checks.loaded("hall 1 0 50 2;kind a 9 0 200;kind b 9 0 200;program p;program q;handle p a 1 raise b q 0"
                + ";hide q b;send p a 0");
    }

    private static void idleIn() {
        Document.section("Promise 27: idleIn");
        Document.holds("Returns how many ticks must pass until the queue of a program is empty and it runs no"
                + " handler,", () -> {
            FadingSignals x = Checks.loaded("hall 1 0 50 2;kind a 9 0 99;kind b 8 0 99;program p;handle p a 20;handle"
                    + " p b 3;send p b 0;send p a 0");
            for (int left = 23; left > 0; left--) {
                Checks.due("both must be so", x.idleIn(0), left);
                x.tick(1);
            }
            Checks.due("now", x.idleIn(0), 0);
        });
        Document.holds("0 if it is so now;", () -> {
            FadingSignals x = idleIn201();
            Checks.due("now, though not later", x.idleIn(1), 0);
            Checks.due("a signal in the queue", x.idleIn(0), 1);
            Checks.due("nothing was ever sent", Checks.loaded("hall 1 0 1 1;program p").idleIn(0), 0);
            FadingSignals y = Checks.loaded("hall 1 0 50 2;kind a 9 0 99;program p;handle p a 2;send p a 0");
            y.tick(1);
            Checks.due("a running handler alone", y.idleIn(0), 1);
        });
        Document.holds("NONE if it is not so within 200.", () -> {
            FadingSignals x = Checks.loaded("hall 1 0 50 2;kind a 9 0 200;program p;hide p a;send p a 0");
            Checks.due("200", x.idleIn(0), 200);
            x.tick(1);
            Checks.due("199", x.idleIn(0), 199);
            FadingSignals y = Checks.loaded("hall 1 0 50 2;kind a 9 0 200;kind b 8 0 200;program p;handle p a 1 raise"
                    + " b p 0;hide p b;send p a 0");
            Checks.due("201", y.idleIn(0), -1);
            y.tick(1);
            Checks.due("200", y.idleIn(0), 200);
            FadingSignals z = Checks.loaded("hall 1 0 50 2;kind a 9 0 200;program p;handle p a 1 raise a p 0;send p a"
                    + " 0");
            Checks.due("never", z.idleIn(0), -1);
        });
        Document.holds(NO_TEXT, () -> Refusals.withoutText(x -> x.idleIn(0)));
        Document.holds(NO_PROGRAM, () -> Refusals.noSuchProgram((x, program) -> x.idleIn(program)));
    }

    private static void calmIn() {
        Document.section("Promise 28: calmIn");
        Document.holds("Returns how many ticks must pass until all programs are so;", () -> {
            StringBuilder text = new StringBuilder("hall 1 0 50 2;kind a 9 0 99");
            for (int p = 0; p < 6; p++) {
                char program = (char) ('p' + p);
                text.append(";program ").append(program).append(";handle ").append(program).append(" a ").append(p + 1);
            }
            for (int p = 0; p < 6; p++) {
                FadingSignals x = Checks.loaded(text.toString());
                Checks.due("now", x.calmIn(), 0);
                x.send(p, 0, 0);
                x.send(5 - p, 0, 0);
                Checks.due("the program " + p + " and the one opposite", x.calmIn(), p < 5 - p ? 6 - p : p + 1);
            }
            FadingSignals apart = Checks.loaded("hall 1 0 50 2;kind a 9 0 99;program p;program q;handle p a 2 raise a"
                    + " q 0;handle q a 3 raise a p 0;send p a 0");
            Checks.due("never all of them at once", apart.calmIn(), -1);
            Checks.due("no programs", Checks.loaded("hall 1 0 1 1;kind a 9 0 9").calmIn(), 0);
        });
        Document.holds("NONE if it is not so within 200.", () -> {
            FadingSignals x = idleIn201();
            Checks.due("201", x.calmIn(), -1);
            x.tick(1);
            Checks.due("200", x.calmIn(), 200);
            x.tick(199);
            Checks.due("1", x.calmIn(), 1);
        });
        Document.holds(NO_TEXT, () -> Refusals.withoutText(x -> x.calmIn()));
    }

    /**
     * A handler runs that gets its turn again behind ten others of 19 ticks above it, as many as the other kind can
     * begin before it is too tired; then it needs one tick less than its TICKS.
     */
    private static FadingSignals endsBehind190(int ticks) {
        FadingSignals x = Checks.loaded("hall 2 0 50 2;kind a 5 0 200;kind b 99 10 200;program p;handle p a " + ticks
                + ";handle p b 19 raise b p 0;send p a 0");
        x.tick(1);
        x.send(0, 1, 0);
        return x;
    }

    private static void endIn() {
        Document.section("Promise 29: endIn");
        Document.holds("Returns how many ticks must pass until a signal that is in a queue or handled by a running"
                + " handler has an end; at least 1;", () -> {
            FadingSignals x = Checks.loaded("hall 1 0 50 2;kind a 9 0 99;kind b 8 0 99;kind c 7 0 1;program p;program q"
                    + ";handle p a 1;handle p b 20;hide q c;send p b 0;send p a 0;send q a 0;send q c 0");
            int[] want = {21, 1, 1, 1};
            for (int signal = 0; signal < 4; signal++) {
                Checks.due("in a queue, " + signal, x.endIn(signal), want[signal]);
            }
            x.tick(2);
            Checks.due("handled by a running handler", x.endIn(0), 19);
            x.tick(18);
            Checks.due("in its last tick", x.endIn(0), 1);
        });
        Document.holds("NONE if it is in neither (so also if it has its end),", () -> {
            FadingSignals x = Checks.loaded("hall 1 0 50 1;kind a 9 0 99;program p;handle p a 1;send p a 0;send p a 0");
            Checks.due("lost", x.endIn(1), -1);
            x.tick(1);
            Checks.due("handled", x.endIn(0), -1);
            x.send(0, 0, 0);
            x.drop(2);
            Checks.due("dropped", x.endIn(2), -1);
            for (int i = 0; i < 50; i++) {
                x.send(0, 0, 0);
                x.drop(3 + i);
            }
            Checks.due("an end that can be told no more", x.endIn(0), -1);
        });
        Document.holds("or has none within 200.", () -> {
            Checks.due("200", endsBehind190(11).endIn(0), 200);
            Checks.due("201", endsBehind190(12).endIn(0), -1);
            FadingSignals x = endsBehind190(12);
            x.tick(1);
            Checks.due("200 a tick later", x.endIn(0), 200);
            x.tick(199);
            Checks.due("the last one", x.endIn(0) + " " + x.whereIs(0), "1 10");
            x.tick(1);
            Checks.due("its end", x.whereIs(0), 20);
            FadingSignals aged = Checks.loaded("hall 1 0 50 2;kind a 9 0 200;program p;hide p a;send p a 0");
            Checks.due("200, by its age", aged.endIn(0), 200);
        });
        Document.holds(NO_TEXT, () -> Refusals.withoutText(x -> x.endIn(0)));
        Document.holds(NO_SIGNAL, () -> Refusals.noSuchSignal((x, signal) -> x.endIn(signal)));
    }

    private static void endOf() {
        Document.section("Promise 30: endOf");
        Document.holds("Returns the end that it has then;", () -> {
            FadingSignals x = Checks.loaded("hall 1 0 50 3;kind a 9 9 99;kind b 8 0 2;kind c 7 0 99;program p;program"
                    + " q;handle p a 1 drop b raise b q 0;hide q b;hide q c;send p a 0;send p b 0;send q b 0;send q c"
                    + " 0;send p a 0;send q a 0");
            int[] want = {0, 5, 2, 3, 1, 4};
            for (int signal = 0; signal < 6; signal++) {
                Checks.due("signal " + signal, x.endOf(signal), want[signal]);
            }
            // More signals than can be told end in one tick, ahead of them the one that is asked for.
            StringBuilder many = new StringBuilder("hall 1 0 50 12;kind a 9 0 99");
            for (char program = 'p'; program <= 'u'; program++) {
                many.append(";program ").append(program);
            }
            FadingSignals y = Checks.loaded(many.toString());
            for (int i = 0; i < 72; i++) {
                y.send(i / 12, 0, 0);
            }
            Checks.due("the first of 72", y.endOf(0) + " " + y.endIn(0), "4 1");
            Checks.due("the last of 72", y.endOf(71) + " " + y.endIn(71), "4 1");
        });
        Document.holds("NONE likewise.", () -> {
            Checks.due("200", endsBehind190(11).endOf(0), 0);
            Checks.due("201", endsBehind190(12).endOf(0), -1);
            FadingSignals x = Checks.loaded("hall 1 0 50 1;kind a 9 0 99;program p;handle p a 1;send p a 0;send p a 0");
            Checks.due("one that will have an end", x.endOf(0), 0);
            Checks.due("lost", x.endOf(1), -1);
            x.tick(1);
            Checks.due("handled", x.endOf(0), -1);
            for (int i = 0; i < 50; i++) {
                x.send(0, 0, 0);
                x.drop(2 + i);
            }
            Checks.due("an end that can be told no more", x.endOf(0), -1);
        });
        Document.holds(NO_TEXT, () -> Refusals.withoutText(x -> x.endOf(0)));
        Document.holds(NO_SIGNAL, () -> Refusals.noSuchSignal((x, signal) -> x.endOf(signal)));
    }

    private static void endsIn() {
        Document.section("Promise 31: endsIn");
        Document.holds("end: 0 to 5", () -> {
            FadingSignals x = Checks.loaded("hall 1 0 50 5;kind a 9 9 99;kind b 8 0 2;kind c 7 0 99;program p;program"
                    + " q;handle p a 1 drop c raise b q 0 raise b q 0 raise b q 0;hide q b;hide q c;hide p c;send p a"
                    + " 0;send p a 0;send p a 0;send p c 0;send p c 0;send q b 0;send q c 0;send q a 0;send q a 0;send"
                    + " q c 0");
            int[][] want = {{0, 0, 0, 0, 0, 0}, {1, 0, 0, 3, 2, 2}, {1, 2, 1, 3, 2, 2}};
            for (int ticks = 0; ticks < 3; ticks++) {
                for (int end = 0; end < 6; end++) {
                    Checks.due("the end " + end + " in " + ticks, x.endsIn(end, ticks), want[ticks][end]);
                }
            }
        });
        Document.holds("ticks: 0 to 200", () -> {
            FadingSignals x = Checks.loaded("hall 1 0 50 2;kind a 9 0 200;kind b 9 0 200;program p;handle p b 1 raise"
                    + " a p 0;hide p a;send p a 0;send p b 0");
            Checks.due("0", x.endsIn(0, 0), 0);
            Checks.due("1", x.endsIn(0, 1), 1);
            Checks.due("199", x.endsIn(2, 199), 0);
            Checks.due("200, but not the one of 201", x.endsIn(2, 200), 1);
            x.tick(1);
            Checks.due("200, both", x.endsIn(2, 200), 2);
        });
        Document.holds("Returns how many signals more would have an end (0 to 5) behind so many ticks.", () -> {
            FadingSignals x = Checks.loaded("hall 1 0 50 12;kind a 9 0 200;program p;handle p a 1 raise a p 0;send p a"
                    + " 0");
            x.tick(7);
            Checks.due("none in 0 ticks", x.endsIn(0, 0), 0);
            Checks.due("one in each", x.endsIn(0, 3), 3);
            Checks.due("more than can be told", x.endsIn(0, 200), 200);
            Checks.due("of another end none", x.endsIn(4, 200), 0);
        });
        Document.holds(NO_TEXT, () -> Refusals.withoutText(x -> x.endsIn(0, 0)));
        Document.holds("Throws IllegalArgumentException if end or ticks is out of range", () -> {
            Refusals.outOfRange(0, 5, (x, end) -> x.endsIn(end, 0));
            Refusals.outOfRange(0, 200, (x, ticks) -> x.endsIn(5, ticks));
        });
    }

    private static void urgencyIn() {
        Document.section("Promise 32: urgencyIn");
        Document.noBoundary("program: number of the program", "kind: number of the kind");
        Document.holds("ticks: 0 to 200", () -> {
            FadingSignals x = Checks.loaded("hall 1 0 50 2;kind a 50 20 200;program p;program q;handle q a 1;send q a"
                    + " 0");
            int[][] want = {{0, 50}, {1, 30}, {49, 30}, {50, 31}, {51, 31}, {99, 31}, {100, 32}, {199, 33}, {200, 34}};
            for (int[] one : want) {
                Checks.due(one[0] + " ticks", x.urgencyIn(1, 0, one[0]), one[1]);
            }
            Checks.due("the other program", x.urgencyIn(0, 0, 200), 50);
        });
        Document.holds("Returns the urgency of a kind for a program behind so many ticks.", () -> {
            FadingSignals x = Checks.loaded("hall 1 0 1 2;kind a 2 3 200;program p;handle p a 1;send p a 0");
            int[] want = {2, 0, 0, 1, 2, 2};
            for (int ticks = 0; ticks < 6; ticks++) {
                Checks.due("not below 0, nor above URGENCY: " + ticks, x.urgencyIn(0, 0, ticks), want[ticks]);
            }
        });
        Document.holds(NO_TEXT, () -> Refusals.withoutText(x -> x.urgencyIn(0, 0, 0)));
        Document.holds("Throws IndexOutOfBoundsException if there is no such program or kind", () -> {
            Refusals.noSuchProgram((x, program) -> x.urgencyIn(program, 0, 0));
            Refusals.noSuchKind((x, kind) -> x.urgencyIn(0, kind, 0));
        });
        Document.holds("Throws IllegalArgumentException if ticks is out of range",
                () -> Refusals.outOfRange(0, 200, (x, ticks) -> x.urgencyIn(1, 2, ticks)));
    }

    private static void sentIn() {
        Document.section("Promise 33: sentIn");
        Document.holds("ticks: 0 to 200", () -> {
            FadingSignals x = Checks.loaded("hall 1 0 50 2;kind a 9 0 200;program p;handle p a 1 raise a p 0;send p a"
                    + " 0");
            for (int ticks : new int[] {0, 1, 2, 199, 200}) {
                Checks.due(ticks + " ticks", x.sentIn(ticks), ticks);
            }
        });
        Document.holds("Returns how many signals would be sent in so many ticks.", () -> {
            FadingSignals x = Checks.loaded("hall 1 0 50 1;kind a 9 0 200;program p;program q;handle p a 2 raise a q 0"
                    + " raise a q 0 raise a q 0 raise a p 0;send p a 0;send p a 0");
            int[] want = {0, 0, 4, 4, 8};
            for (int ticks = 0; ticks < 5; ticks++) {
                Checks.due("also those that are lost at once, in " + ticks, x.sentIn(ticks), want[ticks]);
            }
            Checks.due("none", Checks.loaded("hall 1 0 1 1;kind a 9 0 9;program p;send p a 0").sentIn(200), 0);
        });
        Document.holds(NO_TEXT, () -> Refusals.withoutText(x -> x.sentIn(0)));
        Document.holds("Throws IllegalArgumentException if ticks is out of range",
                () -> Refusals.outOfRange(0, 200, (x, ticks) -> x.sentIn(ticks)));
    }

    private static void bestMask() {
        Document.section("Promise 34: bestMask");
        Document.holds("Finds the kind whose coming into the mask of a program, now, leaves the fewest signals sent to"
                + " this program that get another end than 0", () -> {
            FadingSignals x = Checks.loaded("hall 1 0 50 12;kind a 9 0 99;kind b 8 0 99;kind c 7 0 99;program p"
                    + ";program q;handle p a 1;send p a 0;send p b 0;send p c 0;send p c 0;send p a 0;send p a 0");
            Checks.due("two of c would be lost, three of a be handled", x.bestMask(0), 2);
            x.clear(0);
            x.send(1, 0, 0);
            x.send(1, 0, 0);
            x.send(0, 1, 0);
            Checks.due("only those that are sent to this program", x.bestMask(0), 1);
            Checks.due("the other one", x.bestMask(1), 0);
            FadingSignals y = Checks.loaded("hall 1 0 50 12;kind a 9 0 99;kind b 8 0 99;program p;program q;handle p a"
                    + " 1 raise b q 0;send p a 0;send p b 0");
            Checks.due("not those that it sends to another one", y.bestMask(0), 1);
        });
        Document.holds("within 50 ticks", () -> {
            FadingSignals x = Checks.loaded("hall 1 0 50 12;kind a 9 0 50;kind b 8 0 51;program p;program q;send p a 0"
                    + ";send p b 0;hide q a;hide q b;send q a 0");
            Checks.due("a would be lost at 50 all the same, b at 51", x.bestMask(0), 1);
            x.setKind(0, 2, 51);
            Checks.due("both behind 50", x.bestMask(0), 0);
        });
        Document.holds("(from now on; also those that are sent in them; an act can take the kind out again).", () -> {
            FadingSignals x = Checks.loaded("hall 1 0 50 12;kind a 9 0 99;kind b 8 0 99;kind c 7 0 99;program p;handle"
                    + " p a 1;send p b 0;send p b 0;send p b 0;send p c 0");
            x.tick(1);
            Checks.due("from now on: all are lost already", x.bestMask(0), 0);
            x.send(0, 2, 0);
            Checks.due("from now on: one of c", x.bestMask(0), 2);
            FadingSignals y = Checks.loaded("hall 1 0 50 12;kind a 9 0 99;kind b 8 0 99;kind c 7 0 99;program p"
                    + ";program q;handle q a 1 raise c p 0 raise c p 0;send q a 0;send p b 0");
            Checks.due("also those that are sent in them", y.bestMask(0), 2);
            FadingSignals z = Checks.loaded("hall 1 0 50 12;kind a 9 0 99;kind b 8 0 99;kind c 7 0 99;program p;handle"
                    + " p a 1 unmask b;send p a 0;send p b 0;send p b 0;send p c 0");
            Checks.due("an act can take the kind out again", z.bestMask(0), 2);
        });
        Document.noBoundary("program: number of the program");
        Document.holds("Returns the kind, of those that are not in the mask, of several the smallest number;", () -> {
            FadingSignals x = Checks.loaded(Refusals.fullHouse());
            for (int kind = 0; kind < 8; kind++) {
                Checks.due("of those that are all the same", x.bestMask(5), kind);
                x.mask(5, kind, true);
            }
            x.mask(5, 3, false);
            Checks.due("the only one", x.bestMask(5), 3);
            Checks.due("another program", x.bestMask(0), 0);
        });
        Document.holds("NONE if all are in the mask.", () -> {
            FadingSignals x = Checks.loaded(Refusals.fullHouse());
            for (int kind = 0; kind < 8; kind++) {
                Checks.due("not all yet", x.bestMask(5) >= 0, true);
                x.mask(5, kind, true);
            }
            Checks.due("all", x.bestMask(5), -1);
            Checks.due("no kinds", Checks.loaded("hall 1 0 1 1;program p").bestMask(0), -1);
        });
        Document.holds(NO_TEXT, () -> Refusals.withoutText(x -> x.bestMask(0)));
        Document.holds(NO_PROGRAM, () -> Refusals.noSuchProgram((x, program) -> x.bestMask(program)));
    }
}
