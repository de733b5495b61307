/** Boundary cases under "What it is" and "Terms", 1 and 2: kinds, programs, signals, handlers. */
final class SignalBounds {
    private SignalBounds() {
    }

    static void look() {
        Document.section("What it is");
        Document.noBoundary("A hall of programs that send ... told lost.");
        Document.holds("An object is used for at most 512 calls after it has been made; what later calls answer is"
                + " free.",
                SignalBounds::lastCall);
        Document.section("Terms");
        Document.noBoundary("The class parses a hall, lets ticks pass, ... what would be. 1. Kinds, programs, signals",
                "All numbers are integers.");
        kindsAndPrograms();
        signals();
        handlers();
    }

    /** Two calls of append and one of load have been made. */
    private static FadingSignals one() {
        return Checks.loaded("hall 1 0 1 1;kind a 9 0 9;program p");
    }

    private static void lastCall() {
        FadingSignals sending = one();
        FadingSignals ticking = one();
        FadingSignals undoing = one();
        FadingSignals loading = new FadingSignals();
        for (int call = 4; call < 512; call++) {
            sending.send(0, 0, 0);
            ticking.tick(19);
            undoing.tick(1);
        }
        for (int call = 1; call < 511; call += 2) {
            Checks.load(loading, "hall 1 0 1 1");
        }
        Checks.append(loading, "hall 4 0 1");
        Checks.due("the 512th call, send", sending.send(0, 0, 0), 508);
        Checks.due("the 512th call, count", ticking.count(3), 508 * 19);
        Checks.due("the 512th call, undo", undoing.undo(), 7);
        Checks.argument("the 512th call, load", () -> loading.load(10));
    }

    private static void kindsAndPrograms() {
        Document.holds("Kinds and programs are numbered from 0, each for itself; all have NAMES.", () -> {
            FadingSignals x = Checks.loaded("hall 1 0 1 1;program b;kind a 9 0 9;program a;kind b 9 0 9");
            Checks.due("the first kind", Checks.find(x, true, "a"), 0);
            Checks.due("the second kind", Checks.find(x, true, "b"), 1);
            Checks.due("the first program", Checks.find(x, false, "b"), 0);
            Checks.due("the second program", Checks.find(x, false, "a"), 1);
        });
        Document.holds("A kind has URGENCY (1 to 99), FADE (0 to 20) and KEEP (1 to 200).", () -> {
            FadingSignals x = Checks.loaded("hall 1 0 1 1;kind a 1 0 1;kind b 99 20 200");
            int[] want = {1, 0, 1, 99, 20, 200};
            for (int i = 0; i < 6; i++) {
                Checks.due("a bound, " + i, x.kind(i / 3, i % 3), want[i]);
            }
            Checks.textError("hall 1 0 1 1;kind a 0 0 1", "2 20");
            Checks.textError("hall 1 0 1 1;kind a 100 0 1", "2 20");
            Checks.textError("hall 1 0 1 1;kind a 1 21 1", "2 22");
            Checks.textError("hall 1 0 1 1;kind a 1 0 0", "2 24");
            Checks.textError("hall 1 0 1 1;kind a 1 0 201", "2 24");
        });
        Document.holds("A program has a tiredness for each kind (0 to 99, at first 0),", SignalBounds::tirednessBounds);
        Document.holds("a mask (a set of kinds, at first empty),", SignalBounds::maskBounds);
        Document.holds("a queue of at most CAP signals (1 to 12),", SignalBounds::capBounds);
        Document.holds("and a stack of at most DEPTH running handlers (1 to 4).", SignalBounds::depthBounds);
        Document.holds("The urgency of a kind for a program is URGENCY less its tiredness for this kind, but at least"
                + " 0.",
                SignalBounds::urgencyBounds);
    }

    private static void tirednessBounds() {
        FadingSignals full = Checks.loaded(Refusals.fullHouse());
        for (int i = 0; i < 48; i++) {
            Checks.due("at first 0, " + i, full.tiredness(i / 8, i % 8), 0);
        }
        FadingSignals x = Checks.loaded("hall 1 0 50 12;kind a 99 20 99;program p;handle p a 1");
        int[] want = {20, 40, 60, 80, 99};
        for (int tired : want) {
            x.send(0, 0, 0);
            x.tick(1);
            Checks.due("20 more, at most 99", x.tiredness(0, 0), tired);
        }
        FadingSignals y = Checks.loaded("hall 1 0 1 12;kind a 99 1 99;program p;handle p a 1;send p a 0");
        y.tick(1);
        Checks.due("1", y.tiredness(0, 0), 1);
        y.tick(1);
        Checks.due("0", y.tiredness(0, 0), 0);
        y.tick(1);
        Checks.due("at least 0", y.tiredness(0, 0), 0);
    }

    private static void maskBounds() {
        FadingSignals x = Checks.loaded(Refusals.fullHouse());
        for (int program = 0; program < 6; program++) {
            Checks.due("at first empty", x.program(program, 2), 0);
        }
        for (int kind = 0; kind < 8; kind++) {
            x.mask(5, kind, true);
        }
        Checks.due("a set of all kinds", x.program(5, 2), 255);
        Checks.due("of the other programs none", x.program(4, 2), 0);
    }

    private static void capBounds() {
        for (int cap : new int[] {1, 2, 11, 12}) {
            FadingSignals x = Checks.loaded("hall 1 0 50 " + cap + ";kind a 9 0 9;program p;program q");
            for (int sent = 1; sent <= cap + 2; sent++) {
                x.send(1, 0, 0);
                Checks.due("CAP " + cap + ", signals in the queue", x.program(1, 0), Math.min(sent, cap));
            }
        }
        Checks.textError("hall 1 0 50 0", "2 12");
        Checks.textError("hall 1 0 50 13", "2 12");
    }

    private static void depthBounds() {
        for (int depth = 1; depth <= 4; depth++) {
            FadingSignals x = Checks.loaded("hall " + depth + " 0 50 9;kind a 10 0 99;kind b 20 0 99;kind c 30 0 99"
                    + ";kind d 40 0 99;kind e 50 0 99;program p;handle p a 9;handle p b 9;handle p c 9;handle p d 9"
                    + ";handle p e 9");
            for (int kind = 0; kind < 5; kind++) {
                x.send(0, kind, 0);
                x.tick(1);
                Checks.due("DEPTH " + depth + ", running handlers", x.program(0, 1), Math.min(kind + 1, depth));
            }
        }
        Checks.textError("hall 0 0 50 9", "2 5");
        Checks.textError("hall 5 0 50 9", "2 5");
    }

    private static void urgencyBounds() {
        for (int urgency = 19; urgency <= 22; urgency++) {
            FadingSignals x = Checks.loaded("hall 1 0 50 9;kind a " + urgency + " 10 99;program p;program q;handle p a"
                    + " 1;send p a 0;send p a 0");
            Checks.due("not tired", x.urgency(0, 0), urgency);
            x.tick(2);
            Checks.due("tired by 20", x.urgency(0, 0), Math.max(0, urgency - 20));
            Checks.due("of a program that is not tired", x.urgency(1, 0), urgency);
        }
    }

    private static void signals() {
        Document.holds("A signal has a number (from 0, in the order in which signals are sent),", () -> {
            FadingSignals x = Checks.loaded("hall 1 0 50 1;kind a 9 0 9;kind b 8 0 9;program p;program q"
                    + ";handle p a 1 raise b q 0 raise b p 0;send p a 0;send p b 0");
            Checks.due("the first one is 0, the second one, lost at once, is 1", x.queue(0, 0, 0) + " " + x.end(0, 0),
                    "0 1");
            x.tick(1);
            Checks.due("2 and 3 are sent by acts", x.end(0, 0) + " " + x.queue(0, 0, 0), "2 3");
            Checks.due("4 is sent by a call", x.send(1, 0, 0), 4);
        });
        Document.noBoundary("a kind, a program to which it is sent,");
        Document.holds("a program that sent it (NONE if it was sent by a call or by the text),", () -> {
            FadingSignals x = Checks.loaded("hall 1 0 50 9;kind a 9 0 9;kind b 8 0 9;program p;program q"
                    + ";handle p a 1 raise b q 0;handle q a 1 raise b p 0;hide p b;hide q b;send p a 0;send q a 0;send"
                    + " p b 0");
            x.send(0, 1, 0);
            x.tick(1);
            Checks.due("by the text", x.queue(0, 0, 2), FadingSignals.NONE);
            Checks.due("by a call", x.queue(0, 1, 2), FadingSignals.NONE);
            Checks.due("by the program 1", x.queue(0, 2, 2), 1);
            Checks.due("by the program 0", x.queue(1, 0, 2), 0);
        });
        Document.holds("a value (0 to 999), and the time at which it was sent.", () -> {
            FadingSignals x = Checks.loaded("hall 1 0 50 9;kind a 9 0 9;program p;hide p a;send p a 0;send p a 999");
            x.tick(1);
            x.send(0, 0, 0);
            x.send(0, 0, 999);
            for (int i = 0; i < 4; i++) {
                Checks.due("the value", x.queue(0, i, 3), i % 2 * 999);
                Checks.due("the time", x.queue(0, i, 4), i / 2);
            }
            Checks.argument("a value below", () -> x.send(0, 0, -1));
            Checks.argument("a value above", () -> x.send(0, 0, 1000));
        });
        Document.holds("Its end is one of these: 0 it is handled, 1 it faded, 2 it is lost by its age, 3 by a full"
                + " queue, 4 without a handler, 5 it is dropped.", SignalBounds::eachEnd);
        Document.holds("The latest 40 ends can be told; all are counted.", SignalBounds::fortyEnds);
        Document.holds("The signals of a queue are in order: ... of several the smallest number first.",
                SignalBounds::order);
        Document.noBoundary("To send a signal: it comes into the queue of its program.");
        Document.holds("If there are more than CAP signals then, the last one in the order is lost by a full queue"
                + " (it can be this one).", SignalBounds::fullQueue);
    }

    private static void eachEnd() {
        FadingSignals x = Checks.loaded("hall 1 0 50 1;kind a 10 10 99;kind b 9 0 1;program p;handle p a 1;send p a 0");
        x.tick(1);
        Checks.due("handled", x.end(0, 1), 0);
        x.send(0, 0, 0);
        x.tick(1);
        Checks.due("faded", x.end(0, 1), 1);
        x.send(0, 1, 0);
        x.tick(1);
        Checks.due("lost by its age", x.end(0, 1), 2);
        x.send(0, 1, 0);
        x.send(0, 1, 0);
        Checks.due("lost by a full queue", x.end(0, 1), 3);
        x.setKind(1, 2, 2);
        x.tick(1);
        Checks.due("lost without a handler", x.end(0, 1), 4);
        x.send(0, 1, 0);
        x.drop(5);
        Checks.due("dropped", x.end(0, 1), 5);
        Checks.due("by numbers", Checks.ends(x), "5:5 3:4 4:3 2:2 1:1 0:0");
    }

    private static void fortyEnds() {
        for (int ends : new int[] {0, 1, 39, 40, 41, 80, 81, 121}) {
            FadingSignals x = TellBounds.manyEnds(ends);
            int told = Math.min(ends, 40);
            Checks.due(ends + " ends, those that can be told", x.count(13), told);
            Checks.due(ends + " ends, all are counted", x.count(12) + " " + x.program(0, 7), ends + " " + ends);
            for (int i = 0; i < told; i++) {
                Checks.due(ends + " ends, the latest but " + i, x.end(i, 0), ends - 1 - i);
            }
            Checks.index(ends + " ends, one more", () -> x.end(told, 0));
        }
        for (int ends : new int[] {3, 39, 40, 41, 75}) {
            FadingSignals x = Checks.loaded("hall 1 0 50 2;kind a 10 0 99;program p;handle p a 1 raise a p 0;send p a"
                    + " 0");
            x.tick(ends);
            x.save(0);
            String told = Checks.ends(x);
            x.tick(100);
            Checks.due("a hundred more", x.count(7), ends + 100);
            x.undo();
            Checks.due("the same ones behind undo", Checks.ends(x), told);
            x.tick(100);
            x.restore(0);
            Checks.due("the same ones behind restore", Checks.ends(x), told);
        }
    }

    private static void order() {
        FadingSignals x = Checks.loaded("hall 1 0 50 12;kind a 20 0 99;kind b 20 0 99;kind c 21 0 99;kind d 19 0 99"
                + ";program p;send p d 0;send p b 0;send p a 0;send p c 0;send p b 0;send p a 0;send p d 0");
        Checks.due("several of the same urgency", Checks.queue(x, 0), "3 1 2 4 5 0 6");
        x.setKind(0, 0, 19);
        Checks.due("as it is when the order is asked", Checks.queue(x, 0), "3 1 4 0 2 5 6");
        FadingSignals y = Checks.loaded("hall 1 0 50 12;kind a 5 20 99;kind b 10 20 99;program p;handle p a 1"
                + ";handle p b 1;send p a 0;send p b 0");
        y.tick(2);
        y.send(0, 0, 0);
        y.send(0, 1, 0);
        y.send(0, 0, 0);
        Checks.due("all of the urgency 0", Checks.queue(y, 0), "2 3 4");
    }

    private static void fullQueue() {
        FadingSignals x = Checks.loaded("hall 1 0 50 2;kind a 20 0 99;kind b 30 0 99;kind c 20 0 99;program p;program q"
                + ";handle q a 1 raise a p 0");
        x.send(0, 0, 0);
        x.send(0, 0, 0);
        Checks.due("CAP signals: none is lost", Checks.ends(x), "");
        x.send(0, 2, 0);
        Checks.due("one more of the same urgency: it is this one", Checks.ends(x), "2:3");
        x.send(0, 1, 0);
        Checks.due("one more urgent: the last one in the order", Checks.ends(x), "1:3 2:3");
        x.send(0, 1, 0);
        Checks.due("one more of these", Checks.ends(x), "0:3 1:3 2:3");
        x.send(0, 0, 0);
        Checks.due("one less urgent: it is this one", Checks.ends(x), "5:3 0:3 1:3 2:3");
        x.mask(0, 1, true);
        x.send(1, 0, 0);
        x.tick(1);
        Checks.due("one that an act sends", Checks.ends(x), "7:3 6:0 5:3 0:3 1:3 2:3");
        Checks.due("two stay", Checks.queue(x, 0), "3 4");
    }

    private static void handlers() {
        Document.noBoundary("2. Handlers");
        Document.holds("A program can have one handler for each kind: TICKS (1 to 20),", SignalBounds::handlerBounds);
        Document.holds("and at most 4 acts, which are done one behind the other at its end.", SignalBounds::actBounds);
        Document.holds("An act is one of these: raise KIND PROGRAM PLUS: ... modulo 1000.", SignalBounds::raiseBounds);
        Document.holds("mask KIND, unmask KIND: the kind comes into the mask of this program, or out of it.", () -> {
            for (String hidden : new String[] {"", ";hide p b", ";hide p c", ";hide p b;hide p c"}) {
                int before = (hidden.contains("p b") ? 2 : 0) + (hidden.contains("p c") ? 4 : 0);
                for (String act : new String[] {"mask", "unmask"}) {
                    FadingSignals x = Checks.loaded("hall 1 0 50 2;kind a 20 0 99;kind b 20 0 99;kind c 20 0 99"
                            + ";program p;program q;handle p a 1 " + act + " b;hide q c;send p a 0" + hidden);
                    x.tick(1);
                    Checks.due(act + " with the mask " + before, x.program(0, 2),
                            act.equals("mask") ? before | 2 : before & 4);
                    Checks.due("not that of another program", x.program(1, 2), 4);
                }
            }
        });
        Document.holds("drop KIND: all signals of the kind in the queue of this program, by numbers, are dropped.",
                () -> {
            String text = "hall 1 0 50 12;kind a 20 0 99;kind b 10 0 99;program p;program q;handle p a 1 drop b;send q"
                    + " b 0;hide q b;send p a 0";
            FadingSignals none = Checks.loaded(text);
            none.tick(1);
            Checks.due("none of the kind", Checks.ends(none), "1:0");
            FadingSignals all = Checks.loaded(text + ";send p b 0".repeat(10));
            all.send(0, 1, 0);
            all.tick(1);
            Checks.due("all of the kind", Checks.ends(all),
                    "12:5 11:5 10:5 9:5 8:5 7:5 6:5 5:5 4:5 3:5 2:5 1:0");
            Checks.due("not those of another program", Checks.queue(all, 1), "0");
        });
    }

    private static void handlerBounds() {
        String text = "hall 1 0 50 2;kind a 20 0 99;kind b 20 0 99;program p;program q;send p a 0;handle p a ";
        FadingSignals shortest = Checks.loaded(text + 1);
        Checks.due("TICKS 1", shortest.endIn(0), 1);
        FadingSignals longest = Checks.loaded(text + 20);
        Checks.due("TICKS 20", longest.endIn(0), 20);
        Checks.textError(text + 0, "2 " + text.length());
        Checks.textError(text + 21, "2 " + text.length());
        Checks.textError(text + "1;handle p a 1", "3 " + (text.length() + 11));
        Checks.textFine(text + "1;handle p b 1;handle q a 1;handle q b 1");
    }

    private static void actBounds() {
        String text = "hall 1 0 50 9;kind a 20 0 99;kind b 20 0 99;program p;send p a 0;handle p a 1";
        for (int acts = 0; acts <= 4; acts++) {
            FadingSignals x = Checks.loaded(text + " mask b".repeat(acts));
            Checks.due("acts", x.handler(0, 0, 1), acts);
            Checks.due("nothing of it before the end", x.program(0, 2), 0);
            x.tick(1);
            Checks.due("at its end", x.program(0, 2), acts > 0 ? 2 : 0);
        }
        Checks.textError(text + " mask b".repeat(5), "4 106");
        String[] acts = {" mask b unmask b", " unmask b mask b", " raise b p 0 drop b", " drop b raise b p 0",
            " mask b unmask b mask b unmask b", " raise b p 0 drop b mask b raise b p 0"};
        String[] mask = {"0", "2", "0", "0", "0", "2"};
        String[] queues = {"", "", "", "1", "", "2"};
        for (int i = 0; i < acts.length; i++) {
            FadingSignals x = Checks.loaded(text + acts[i]);
            x.tick(1);
            Checks.due("one behind the other:" + acts[i], x.program(0, 2) + "/" + Checks.queue(x, 0),
                    mask[i] + "/" + queues[i]);
        }
    }

    private static void raiseBounds() {
        int[][] cases = {{0, 0, 0}, {0, 999, 999}, {999, 0, 999}, {1, 999, 0}, {999, 1, 0}, {999, 999, 998}, {500,
                499, 999},
            {500, 500, 0}, {501, 500, 1}};
        for (int[] one : cases) {
            FadingSignals x = Checks.loaded("hall 1 0 50 2;kind a 20 0 99;program p;program q;hide q a;handle p a 1"
                    + " raise a q "
                    + one[1] + " raise a p " + one[1] + ";send p a " + one[0]);
            x.tick(1);
            Checks.due(one[0] + " plus " + one[1], x.queue(1, 0, 3), one[2]);
            Checks.due(one[0] + " plus " + one[1] + ", to itself", x.queue(0, 0, 3), one[2]);
            Checks.due("by this one", x.queue(1, 0, 2) + " " + x.queue(0, 0, 2), "0 0");
        }
        Checks.textError("hall 1 0 50 2;kind a 20 0 99;program p;handle p a 1 raise a p 1000", "1 62");
    }
}
