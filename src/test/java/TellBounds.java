/** Boundary cases of the promises 8 to 18: what there is. */
final class TellBounds {
    private static final String NO_TEXT = "Throws IllegalStateException if no text was loaded";
    private static final String NO_PROGRAM_OR_KIND = "Throws IndexOutOfBoundsException if there is no such program or"
            + " kind";
    private static final String WHAT = "Throws IllegalArgumentException if what is out of range";

    private TellBounds() {
    }

    static void look() {
        count();
        setting();
        kind();
        program();
        handler();
        urgencyAndTiredness();
        queue();
        running();
        end();
        whereIs();
    }

    private static void count() {
        Document.section("Promise 8: count");
        Document.noBoundary("Returns a count.");
        Document.holds("what: 0 kinds, 1 programs, 2 handlers, 3 the time, 4 signals that were sent, 5 signals in"
                + " queues, 6 running handlers, 7 to 12 signals with the end 0 to 5, 13 ends that can be told", () -> {
            FadingSignals empty = Checks.loaded("hall 1 0 1 1");
            for (int what = 0; what <= 13; what++) {
                Checks.due("of a hall with nothing, " + what, empty.count(what), 0);
            }
            FadingSignals x = Checks.loaded(eightByFive());
            Checks.due("8 kinds, 5 programs, 40 handlers", x.count(0) + " " + x.count(1) + " " + x.count(2), "8 5 40");
            Checks.due("6 programs", Checks.loaded(Refusals.fullHouse()).count(1), 6);
            for (int i = 0; i < 60; i++) {
                x.send(i / 12, i % 8, 0);
            }
            Checks.due("all queues full", x.count(4) + " " + x.count(5) + " " + x.count(6), "60 60 0");
            x.tick(1);
            Checks.due("a handler of each program", x.count(3) + " " + x.count(5) + " " + x.count(6), "1 55 5");
            eachEnd();
        });
        Document.noBoundary("Returns the count.");
        Document.holds(NO_TEXT, () -> Refusals.withoutText(x -> x.count(0)));
        Document.holds(WHAT, () -> Refusals.outOfRange(0, 13, (x, what) -> x.count(what)));
    }

    /** Eight kinds, five programs, and a handler of each for each. */
    private static String eightByFive() {
        StringBuilder text = new StringBuilder("hall1 0 50 12");
        for (char kind = 'a'; kind <= 'h'; kind++) {
            text.append(";kind ").append(kind).append("9 0 99");
        }
        for (char program = 'a'; program <= 'e'; program++) {
            text.append(";program ").append(program);
        }
        for (char program = 'a'; program <= 'e'; program++) {
            for (char kind = 'a'; kind <= 'h'; kind++) {
                text.append(";handle ").append(program).append(' ').append(kind).append(9);
            }
        }
        return text.toString();
    }

    /** One is handled, two fade, three are lost by age, four by a full queue, five have no handler, 30 are dropped. */
    private static void eachEnd() {
        FadingSignals x = Checks.loaded("hall 1 0 50 5;kind a 10 20 99;kind b 9 0 1;kind c 8 0 99;program p;handle p a"
                + " 1;send p a 0");
        x.tick(1);
        x.send(0, 0, 0);
        x.send(0, 0, 0);
        x.tick(1);
        for (int i = 0; i < 3; i++) {
            x.send(0, 1, 0);
        }
        x.tick(1);
        for (int i = 0; i < 9; i++) {
            x.send(0, 2, 0);
        }
        x.tick(1);
        for (int i = 0; i < 30; i++) {
            x.send(0, 2, 0);
            x.drop(x.count(4) - 1);
        }
        for (int end = 0; end < 5; end++) {
            Checks.due("signals with the end " + end, x.count(7 + end), end + 1);
        }
        Checks.due("signals with the end 5", x.count(12), 30);
        Checks.due("ends that can be told", x.count(13), 40);
        Checks.due("signals that were sent", x.count(4), 45);
    }

    private static void setting() {
        Document.section("Promise 9: setting");
        Document.noBoundary("Returns a setting.");
        Document.holds("what: 0 DEPTH, 1 NEST, 2 REST, 3 CAP", () -> {
            FadingSignals least = Checks.loaded("hall 1 0 1 1");
            FadingSignals greatest = Checks.loaded("hall 4 50 50 12");
            int[] low = {1, 0, 1, 1};
            int[] high = {4, 50, 50, 12};
            for (int what = 0; what < 4; what++) {
                Checks.due("the least, " + what, least.setting(what), low[what]);
                Checks.due("the greatest, " + what, greatest.setting(what), high[what]);
            }
        });
        Document.noBoundary("Returns the setting.");
        Document.holds(NO_TEXT, () -> Refusals.withoutText(x -> x.setting(3)));
        Document.holds(WHAT, () -> Refusals.outOfRange(0, 3, (x, what) -> x.setting(what)));
    }

    private static void kind() {
        Document.section("Promise 10: kind");
        Document.noBoundary("kind: number of the kind");
        Document.holds("what: 0 URGENCY, 1 FADE, 2 KEEP", () -> {
            StringBuilder text = new StringBuilder("hall 1 0 1 1");
            for (int k = 0; k < 8; k++) {
                text.append(";kind ").append((char) ('a' + k)).append(k == 0 ? " 1 0 1" : k == 7 ? " 99 20 200" : " 50"
                        + " 9 70");
            }
            FadingSignals x = Checks.loaded(text.toString());
            int[][] want = {{1, 0, 1}, {50, 9, 70}, {99, 20, 200}};
            for (int what = 0; what < 3; what++) {
                Checks.due("the first kind, " + what, x.kind(0, what), want[0][what]);
                Checks.due("the second kind, " + what, x.kind(1, what), want[1][what]);
                Checks.due("the last kind, " + what, x.kind(7, what), want[2][what]);
            }
        });
        Document.noBoundary("Returns the number.");
        Document.holds(NO_TEXT, () -> Refusals.withoutText(x -> x.kind(0, 0)));
        Document.holds("Throws IndexOutOfBoundsException if there is no such kind",
                () -> Refusals.noSuchKind((x, kind) -> x.kind(kind, 0)));
        Document.holds(WHAT, () -> Refusals.outOfRange(0, 2, (x, what) -> x.kind(2, what)));
    }

    private static void program() {
        Document.section("Promise 11: program");
        Document.noBoundary("Returns a property of a program.", "program: number of the program");
        Document.holds("what: 0 signals in its queue,", () -> {
            FadingSignals x = Checks.loaded("hall 1 0 50 12;kind a 9 0 99;program p;program q");
            for (int sent = 0; sent <= 13; sent++) {
                Checks.due("sent " + sent, x.program(1, 0), Math.min(12, sent));
                x.send(1, 0, 0);
            }
            Checks.due("the other one", x.program(0, 0), 0);
        });
        Document.holds("1 running handlers,", () -> {
            FadingSignals x = Checks.loaded("hall 4 0 50 12;kind a 9 0 99;program p;program q;handle q a 9");
            for (int run = 0; run <= 5; run++) {
                Checks.due("begun " + run, x.program(1, 1), Math.min(4, run));
                x.setKind(0, 0, 10 + run);
                x.send(1, 0, 0);
                x.tick(1);
            }
            Checks.due("the other one", x.program(0, 1), 0);
        });
        Document.holds("2 its mask, as a set (bit k for kind k),", () -> {
            FadingSignals x = Checks.loaded(Refusals.fullHouse());
            int mask = 0;
            Checks.due("empty", x.program(5, 2), 0);
            for (int kind = 7; kind >= 0; kind--) {
                x.mask(5, kind, true);
                mask += 1 << kind;
                Checks.due("with the kind " + kind, x.program(5, 2), mask);
            }
        });
        Document.holds("3 its handlers,", () -> {
            FadingSignals x = Checks.loaded(eightByFive());
            Checks.due("eight", x.program(0, 3) + x.program(4, 3), 16);
            FadingSignals y = Checks.loaded("hall 1 0 50 12;kind a 9 0 99;kind b 9 0 9;program p;program q;handle q b"
                    + " 1");
            Checks.due("none and one", y.program(0, 3) + " " + y.program(1, 3), "0 1");
        });
        Document.holds("4 signals that were sent to it (also those that were lost at once, and those of the text),",
                () -> {
            FadingSignals x = Checks.loaded("hall 1 0 50 1;kind a 9 0 99;program p;program q;handle p a 1 raise a q 0"
                    + ";send q a 0;send q a 0");
            Checks.due("none", x.program(0, 4), 0);
            Checks.due("two of the text, one lost at once", x.program(1, 4), 2);
            x.send(1, 0, 0);
            Checks.due("one more, lost at once", x.program(1, 4), 3);
            x.send(0, 0, 0);
            x.mask(1, 0, true);
            x.tick(1);
            Checks.due("one that a program sent, lost at once", x.program(1, 4) + " " + x.program(0, 4), "4 1");
            x.clear(1);
            Checks.due("also behind their ends", x.program(1, 4), 4);
            FadingSignals six = Checks.loaded(Refusals.fullHouse());
            for (int i = 0; i < 36; i++) {
                six.send(Math.max(i / 6, i % 6), i % 8, 0);
            }
            for (int program = 0; program < 6; program++) {
                Checks.due("each program its own", six.program(program, 4), 2 * program + 1);
            }
        });
        Document.holds("5 signals that it sent,", () -> {
            FadingSignals x = Checks.loaded("hall 1 0 50 1;kind a 9 0 99;program p;program q;handle q a 1 raise a p 0"
                    + " raise a p 0 raise a q 0;send q a 0;send p a 0");
            x.send(1, 0, 0);
            Checks.due("none by the text and by calls", x.program(0, 5) + x.program(1, 5), 0);
            x.tick(1);
            Checks.due("three, one of them lost at once", x.program(1, 5) + " " + x.program(0, 5), "3 0");
            FadingSignals six = Checks.loaded(sixWithActs());
            six.tick(1);
            for (int program = 0; program < 6; program++) {
                Checks.due("each program its own", six.program(program, 5), program % 4 + 1);
            }
        });
        Document.holds("6 signals sent to it that are handled, 7 signals sent to it with another end", () -> {
            FadingSignals x = Checks.loaded("hall 1 0 50 2;kind a 9 9 99;kind b 8 0 1;program p;program q;handle q a 1"
                    + ";send q a 0;send p a 0");
            Checks.due("none yet", x.program(1, 6) + x.program(1, 7), 0);
            x.tick(1);
            Checks.due("handled", x.program(1, 6) + " " + x.program(1, 7), "1 0");
            Checks.due("without a handler", x.program(0, 6) + " " + x.program(0, 7), "0 1");
            x.send(1, 0, 0);
            x.send(1, 1, 0);
            x.tick(1);
            Checks.due("faded, and lost by its age", x.program(1, 6) + " " + x.program(1, 7), "1 2");
            x.send(1, 0, 0);
            x.send(1, 0, 0);
            x.send(1, 0, 0);
            Checks.due("lost by a full queue", x.program(1, 6) + " " + x.program(1, 7), "1 3");
            x.clear(1);
            Checks.due("dropped", x.program(1, 6) + " " + x.program(1, 7), "1 5");
            FadingSignals six = Checks.loaded(sixWithActs());
            for (int program = 0; program < 6; program++) {
                six.mask(program, 1, true);
                for (int i = 0; i < program; i++) {
                    six.send(program, 0, 0);
                    six.send(program, 1, 0);
                }
            }
            six.tick(7);
            for (int program = 0; program < 6; program++) {
                six.clear(program);
                Checks.due("handled, each program its own", six.program(program, 6), program + 1);
                // The last one gets 1 * 1 + 2 * 2 + 3 * 3 + 4 * 4 + 5 * 1 + 6 * 2 of the others, too.
                Checks.due("dropped or lost, each its own", six.program(program, 7), program < 5 ? program : 5 + 47);
            }
        });
        Document.noBoundary("Returns the property.");
        Document.holds(NO_TEXT, () -> Refusals.withoutText(x -> x.program(0, 0)));
        Document.holds("Throws IndexOutOfBoundsException if there is no such program",
                () -> Refusals.noSuchProgram((x, program) -> x.program(program, 0)));
        Document.holds(WHAT, () -> Refusals.outOfRange(0, 7, (x, what) -> x.program(1, what)));
    }

    /** Six programs with a signal each, and handlers that send one to four signals of another kind to the last one. */
    private static String sixWithActs() {
        StringBuilder text = new StringBuilder("hall 1 0 50 12;kind a 9 0 99;kind b 8 0 99");
        for (char program = 'p'; program <= 'u'; program++) {
            text.append(";program ").append(program);
        }
        for (char program = 'p'; program <= 'u'; program++) {
            text.append(";send ").append(program).append(" a 0;handle ").append(program).append(" a 1");
            text.append(" raise b u 0".repeat((program - 'p') % 4 + 1));
        }
        return text.toString();
    }

    private static void handler() {
        Document.section("Promise 12: handler");
        Document.noBoundary("Returns a property of a handler.", "program: number of the program",
                "kind: number of the kind");
        String text = "hall 1 0 50 2;kind a 9 0 9;kind b 9 0 9;program p;program q;handle q b ";
        Document.holds("what: 0 TICKS, 1 its acts;", () -> {
            for (int acts = 0; acts <= 4; acts++) {
                FadingSignals x = Checks.loaded(text + (acts == 0 ? 20 : acts) + " drop a".repeat(acts));
                Checks.due("TICKS", x.handler(1, 1, 0), acts == 0 ? 20 : acts);
                Checks.due("acts", x.handler(1, 1, 1), acts);
            }
        });
        Document.holds("10 times the index of an act, from 1, plus 0: 0 raise, 1 mask, 2 unmask, 3 drop, plus 1: its"
                + " kind, plus 2: its program (NONE unless it is raise), plus 3: PLUS (NONE unless it is raise)",
                () -> {
            FadingSignals x = Checks.loaded(text + "1 drop b unmask a mask b raise b q 999");
            FadingSignals y = Checks.loaded(text + "1 raise a p 0 raise b p 5 raise a q 7 unmask a");
            int[][] first = {{3, 1, -1, -1}, {2, 0, -1, -1}, {1, 1, -1, -1}, {0, 1, 1, 999}};
            int[][] second = {{0, 0, 0, 0}, {0, 1, 0, 5}, {0, 0, 1, 7}, {2, 0, -1, -1}};
            for (int act = 0; act < 4; act++) {
                for (int part = 0; part < 4; part++) {
                    int what = 10 * (act + 1) + part;
                    Checks.due("the first text, " + what, x.handler(1, 1, what), first[act][part]);
                    Checks.due("the second text, " + what, y.handler(1, 1, what), second[act][part]);
                }
            }
        });
        Document.holds("Returns the property; NONE if there is no such handler or act (with any what from 0 to 49;"
                + " also for 2 to 9 and those that end in 4 to 9).", () -> {
            for (int acts = 0; acts <= 4; acts++) {
                FadingSignals x = Checks.loaded(text + "1" + " raise a p 0".repeat(acts));
                for (int what = 0; what <= 49; what++) {
                    boolean told = what < 2 || what >= 10 && what / 10 <= acts && what % 10 < 4;
                    Checks.due(acts + " acts, " + what, x.handler(1, 1, what) == -1, !told);
                    Checks.due("no handler of the program for the kind, " + what, x.handler(1, 0, what), -1);
                    Checks.due("no handler of the other program, " + what, x.handler(0, 1, what), -1);
                }
            }
        });
        Document.holds(NO_TEXT, () -> Refusals.withoutText(x -> x.handler(0, 0, 0)));
        Document.holds(NO_PROGRAM_OR_KIND, () -> {
            Refusals.noSuchProgram((x, program) -> x.handler(program, 0, 0));
            Refusals.noSuchKind((x, kind) -> x.handler(0, kind, 0));
        });
        Document.holds("Throws IllegalArgumentException if what is not 0 to 49", () -> {
            Refusals.outOfRange(0, 49, (x, what) -> x.handler(0, 0, what));
            Refusals.outOfRange(0, 49, (x, what) -> x.handler(1, 0, what));
        });
    }

    private static void urgencyAndTiredness() {
        Document.section("Promise 13: urgency");
        Document.holds("Returns the urgency of a kind for a program.", () -> {
            FadingSignals x = Checks.loaded("hall 1 0 50 2;kind a 1 0 9;kind b 99 20 9;kind c 20 20 9;kind d 19 20 9"
                    + ";program p;program q;handle q b 1;handle q c 1;handle q d 1");
            Checks.due("the least and the greatest", x.urgency(0, 0) + " " + x.urgency(0, 1), "1 99");
            for (int kind = 1; kind < 4; kind++) {
                x.send(1, kind, 0);
                x.tick(1);
            }
            Checks.due("20 less, just 0, and not below 0", x.urgency(1, 1) + " " + x.urgency(1, 2) + " "
                    + x.urgency(1, 3),
                    "79 0 0");
            Checks.due("not of the other program", x.urgency(0, 1) + " " + x.urgency(0, 2), "99 20");
            x.setKind(2, 0, 21);
            Checks.due("as URGENCY is now", x.urgency(1, 2), 1);
        });
        Document.holds(NO_TEXT, () -> Refusals.withoutText(x -> x.urgency(0, 0)));
        Document.holds(NO_PROGRAM_OR_KIND, () -> {
            Refusals.noSuchProgram((x, program) -> x.urgency(program, 0));
            Refusals.noSuchKind((x, kind) -> x.urgency(0, kind));
        });
        Document.section("Promise 14: tiredness");
        Document.holds("Returns the tiredness of a program for a kind.", () -> {
            FadingSignals x = Checks.loaded("hall 1 0 50 2;kind a 99 20 9;kind b 99 0 9;program p;program q;handle q a"
                    + " 1;handle q b 1");
            int[] want = {0, 20, 40, 60, 80, 99, 99};
            for (int tired : want) {
                Checks.due("from 0 to 99", x.tiredness(1, 0), tired);
                x.send(1, 0, 0);
                x.tick(1);
            }
            x.send(1, 1, 0);
            x.tick(1);
            Checks.due("FADE 0", x.tiredness(1, 1), 0);
            Checks.due("not of the other program", x.tiredness(0, 0), 0);
        });
        Document.holds(NO_TEXT, () -> Refusals.withoutText(x -> x.tiredness(0, 0)));
        Document.holds(NO_PROGRAM_OR_KIND, () -> {
            Refusals.noSuchProgram((x, program) -> x.tiredness(program, 0));
            Refusals.noSuchKind((x, kind) -> x.tiredness(0, kind));
        });
    }

    private static void queue() {
        Document.section("Promise 15: queue");
        Document.noBoundary("Returns a part of a signal of a queue.", "program: number of the program");
        Document.holds("index: its place in the order, from 0", () -> {
            FadingSignals x = Checks.loaded("hall 1 0 50 12;kind a 9 0 9;kind b 9 0 9;kind c 10 0 9;program p;program"
                    + " q");
            for (int i = 0; i < 12; i++) {
                x.send(1, i % 3, 0);
            }
            int[] want = {2, 5, 8, 11, 0, 1, 3, 4, 6, 7, 9, 10};
            for (int i = 0; i < 12; i++) {
                Checks.due("place " + i, x.queue(1, i, 0), want[i]);
            }
        });
        Document.holds("what: 0 its number, 1 its kind, 2 the program that sent it, 3 its value, 4 the time at which"
                + " it was sent", () -> {
            FadingSignals x = Checks.loaded("hall 1 0 50 12;kind a 9 0 9;kind b 8 0 9;program p;program q;handle q a 3"
                    + " raise b p 999;hide p b;send q a 0;send p b 0");
            x.tick(3);
            int[][] want = {{1, 1, -1, 0, 0}, {2, 1, 1, 999, 3}};
            for (int i = 0; i < 10; i++) {
                Checks.due("part " + i, x.queue(0, i / 5, i % 5), want[i / 5][i % 5]);
            }
        });
        Document.noBoundary("Returns the part.");
        Document.holds(NO_TEXT, () -> Refusals.withoutText(x -> x.queue(0, 0, 0)));
        Document.holds("Throws IndexOutOfBoundsException if there is no such program or index", () -> {
            noSuchPlaceOfQueue();
            Refusals.noSuchIndex(1, (x, index) -> x.queue(0, index, 0));
            for (int program : new int[] {-1, 2, Integer.MIN_VALUE, Integer.MAX_VALUE}) {
                Refusals.refused("program " + program, Refusals.INDEX, x -> x.queue(program, 0, 0));
            }
        });
        Document.holds(WHAT, () -> Refusals.outOfRange(0, 4, (x, what) -> x.queue(0, 0, what)));
    }

    private static void noSuchPlaceOfQueue() {
        FadingSignals x = Checks.loaded("hall 1 0 50 12;kind a 9 0 9;program p;program q");
        for (int size = 0; size <= 12; size++) {
            int behind = size;
            Checks.index("behind a queue of " + size, () -> x.queue(1, behind, 0));
            Checks.index("ahead of a queue of " + size, () -> x.queue(1, -1, 0));
            if (size < 12) {
                x.send(1, 0, 0);
                Checks.due("the last place", x.queue(1, size, 0), size);
            }
        }
        Checks.index("an empty queue", () -> x.queue(0, 0, 0));
    }

    private static void running() {
        Document.section("Promise 16: running");
        Document.noBoundary("Returns a part of a running handler.", "program: number of the program");
        Document.holds("index: its place in the stack, 0 for the one on top", () -> {
            FadingSignals x = fourRunning();
            for (int i = 0; i < 4; i++) {
                Checks.due("place " + i, x.running(1, i, 0), 3 - i);
            }
            x.drop(1);
            Checks.due("when one is dropped from between", x.running(1, 0, 0) + " " + x.running(1, 1, 0) + " "
                    + x.running(1, 2, 0), "3 2 0");
        });
        Document.holds("what: 0 the number of its signal, 1 its kind, 2 its level, 3 what is left of it, 4 the value"
                + " of its signal", () -> {
            FadingSignals x = fourRunning();
            int[][] want = {{3, 3, 99, 1, 999}, {2, 2, 30, 19, 2}, {1, 1, 2, 8, 1}, {0, 0, 1, 1, 0}};
            for (int i = 0; i < 20; i++) {
                Checks.due("part " + i, x.running(1, i / 5, i % 5), want[i / 5][i % 5]);
            }
        });
        Document.noBoundary("Returns the part.");
        Document.holds(NO_TEXT, () -> Refusals.withoutText(x -> x.running(0, 0, 0)));
        Document.holds("Throws IndexOutOfBoundsException if there is no such program or index", () -> {
            FadingSignals x = fourRunning();
            Checks.index("an empty stack", () -> x.running(0, 0, 0));
            Checks.index("above the top", () -> x.running(1, -1, 0));
            for (int size = 4; size > 0; size--) {
                int behind = size;
                Checks.index("below a stack of " + size, () -> x.running(1, behind, 0));
                Checks.due("the lowest one", x.running(1, size - 1, 0), 0);
                x.drop(size - 1);
            }
            Refusals.noSuchIndex(1, (y, index) -> y.running(0, index, 0));
            for (int program : new int[] {-1, 2, Integer.MIN_VALUE, Integer.MAX_VALUE}) {
                Refusals.refused("program " + program, Refusals.INDEX, y -> y.running(program, 0, 0));
            }
        });
        Document.holds(WHAT, () -> Refusals.outOfRange(0, 4, (x, what) -> x.running(0, 0, what)));
    }

    /** Four handlers run in the second program, of the kinds 0 to 3, the last one on top. */
    private static FadingSignals fourRunning() {
        FadingSignals x = Checks.loaded("hall 4 0 50 12;kind a 1 0 99;kind b 2 0 99;kind c 30 0 99;kind d 99 0 99"
                + ";program p;program q;handle q a 2;handle q b 9;handle q c 20;handle q d 2");
        for (int kind = 0; kind < 4; kind++) {
            x.send(1, kind, kind == 3 ? 999 : kind);
            x.tick(1);
        }
        return x;
    }

    private static void end() {
        Document.section("Promise 17: end");
        Document.noBoundary("Returns a part of an end of a signal.");
        Document.holds("index: its index among those that can be told, 0 for the latest one", () -> {
            FadingSignals x = manyEnds(50);
            for (int i = 0; i < 40; i++) {
                Checks.due("index " + i, x.end(i, 0), 49 - i);
            }
        });
        Document.holds("what: 0 the number of the signal, 1 the end, 2 the time, 3 the program to which it was sent, 4"
                + " its kind", () -> {
            FadingSignals x = Checks.loaded(Refusals.fullHouse() + ";send u h 0;send q b 0");
            x.tick(1);
            x.send(5, 7, 0);
            x.tick(8);
            x.send(5, 0, 0);
            x.drop(3);
            int[][] want = {{3, 5, 9, 5, 0}, {2, 0, 2, 5, 7}, {0, 0, 1, 5, 7}, {1, 4, 1, 1, 1}};
            for (int i = 0; i < 20; i++) {
                Checks.due("part " + i, x.end(i / 5, i % 5), want[i / 5][i % 5]);
            }
        });
        Document.noBoundary("Returns the part.");
        Document.holds(NO_TEXT, () -> Refusals.withoutText(x -> x.end(0, 0)));
        Document.holds("Throws IndexOutOfBoundsException if there is no such end that can be told", () -> {
            for (int ends : new int[] {0, 1, 39, 40, 41, 90}) {
                FadingSignals x = manyEnds(ends);
                int told = Math.min(40, ends);
                for (int index : new int[] {-1, told, told + 1, Integer.MIN_VALUE, Integer.MAX_VALUE}) {
                    Checks.index(ends + " ends, " + index, () -> x.end(index, 0));
                }
                Checks.due(ends + " ends, the last one", Checks.outcome(() -> x.end(told - 1, 0)) instanceof Integer,
                        ends > 0);
            }
            Refusals.noSuchIndex(Refusals.sample().count(13), (x, index) -> x.end(index, 0));
        });
        Document.holds(WHAT, () -> Refusals.outOfRange(0, 4, (x, what) -> x.end(0, what)));
    }

    /** So many signals were sent and dropped, one behind the other. */
    static FadingSignals manyEnds(int ends) {
        FadingSignals x = Checks.loaded("hall 1 0 50 12;kind a 9 0 9;program p");
        for (int signal = 0; signal < ends; signal++) {
            x.send(0, 0, 0);
            x.drop(signal);
        }
        return x;
    }

    private static void whereIs() {
        Document.section("Promise 18: whereIs");
        Document.noBoundary("Tells where a signal is.", "signal: number of a signal that was sent");
        Document.holds("Returns the program in whose queue it is;", () -> {
            FadingSignals x = Checks.loaded(Refusals.fullHouse());
            for (int program = 0; program < 6; program++) {
                x.send(program, 2, 0);
                Checks.due("program " + program, x.whereIs(program), program);
            }
        });
        Document.holds("10 plus the program that runs its handler;", () -> {
            StringBuilder text = new StringBuilder("hall 1 0 50 12;kind a 9 0 9");
            for (char program = 'p'; program <= 'u'; program++) {
                text.append(";program ").append(program).append(";handle ").append(program).append(" a 2;send ")
                        .append(program).append(" a 0");
            }
            FadingSignals x = Checks.loaded(text.toString());
            x.tick(1);
            for (int program = 0; program < 6; program++) {
                Checks.due("program " + program, x.whereIs(program), 10 + program);
            }
            FadingSignals four = fourRunning();
            for (int signal = 0; signal < 4; signal++) {
                Checks.due("at any place of the stack", four.whereIs(signal), 11);
            }
        });
        Document.holds("20 plus its end, if that can be told;", () -> {
            FadingSignals x = Checks.loaded("hall 1 0 50 1;kind a 10 10 99;kind b 9 0 1;program p;handle p a 1;send p"
                    + " a 0");
            x.tick(1);
            x.send(0, 0, 0);
            x.tick(1);
            x.send(0, 1, 0);
            x.tick(1);
            x.setKind(1, 2, 2);
            x.send(0, 1, 0);
            x.send(0, 1, 0);
            x.tick(1);
            x.send(0, 0, 0);
            x.drop(5);
            int[] want = {20, 21, 22, 24, 23, 25};
            for (int signal = 0; signal < 6; signal++) {
                Checks.due("signal " + signal, x.whereIs(signal), want[signal]);
            }
            FadingSignals many = manyEnds(40);
            Checks.due("the fortieth", many.whereIs(0), 25);
        });
        Document.holds("NONE otherwise.", () -> {
            for (int ends : new int[] {41, 80, 81, 120}) {
                FadingSignals x = manyEnds(ends);
                for (int signal = 0; signal < ends; signal++) {
                    Checks.due(ends + " ends, signal " + signal, x.whereIs(signal), signal >= ends - 40 ? 25 : -1);
                }
            }
        });
        Document.holds(NO_TEXT, () -> Refusals.withoutText(x -> x.whereIs(0)));
        Document.holds("Throws IndexOutOfBoundsException if there is no such signal",
                () -> Refusals.noSuchSignal((x, signal) -> x.whereIs(signal)));
    }
}
