/** Boundary cases under "Terms", 3: a tick. */
final class TickBounds {
    private TickBounds() {
    }

    static void look() {
        Document.noBoundary("3. A tick");
        time();
        ages();
        begin();
        work();
    }

    private static void time() {
        Document.holds("In a tick, first the time becomes greater by 1 (0 at first).", () -> {
            FadingSignals x = Checks.loaded("hall 1 0 50 9;kind a 9 0 9;kind b 8 0 1;program p;handle p a 1;send p a 0"
                    + ";send p b 0");
            Checks.due("at first", x.count(3), 0);
            x.tick(1);
            Checks.due("behind a tick", x.count(3), 1);
            Checks.due("first: the age and the end are those of the new time", x.end(0, 2) + " " + Checks.ends(x),
                    "1 0:0 1:2");
            x.tick(2);
            Checks.due("behind three", x.count(3), 3);
        });
        Document.holds("If it is a multiple of REST (1 to 50), all tiredness of all programs becomes less by 1, but"
                + " not below 0.", TickBounds::rests);
        Document.holds("Then, for each program, by number, in this order:", () -> {
            String text = "hall 1 0 50 9;kind a 9 0 9;program p;program q;program r;program s;program t;program u";
            String up = ";handle p a 1 raise a q 0;handle q a 1 raise a r 0;handle r a 1 raise a s 0;handle s a 1"
                    + " raise a t 0;handle t a 1 raise a u 0;handle u a 1;send p a 0";
            Checks.due("six programs one behind the other in one tick", Checks.loaded(text + up).tick(1), 6);
            String down = ";handle u a 1 raise a t 0;handle t a 1 raise a s 0;handle s a 1 raise a r 0;handle r a 1"
                    + " raise a q 0;handle q a 1 raise a p 0;handle p a 1;send u a 0";
            FadingSignals x = Checks.loaded(text + down);
            Checks.due("six ticks the other way", x.calmIn(), 6);
            FadingSignals y = Checks.loaded(text + ";send u a 0;send t a 0;send s a 0;send r a 0;send q a 0;send p a"
                    + " 0");
            y.tick(1);
            Checks.due("from the first to the last", Checks.ends(y), "0:4 1:4 2:4 3:4 4:4 5:4");
            FadingSignals z = Checks.loaded("hall 1 0 50 1;kind a 9 0 9;kind b 8 0 1;program p;program q;handle p a 1"
                    + " raise a q 0;send q b 0;send p a 0");
            z.tick(1);
            Checks.due("all of the first one ahead of the ages of the second", Checks.ends(z), "2:4 0:3 1:0");
        });
    }

    private static void rests() {
        for (int rest : new int[] {2, 49, 50}) {
            FadingSignals x = Checks.loaded("hall 1 0 " + rest + " 9;kind a 99 20 200;program p;handle p a 1;send p a"
                    + " 0");
            for (int tired = 20; tired > 17; tired--) {
                x.tick(rest - 1);
                Checks.due("REST " + rest + ": ahead of a multiple", x.tiredness(0, 0), tired);
                x.tick(1);
                Checks.due("REST " + rest + ": at a multiple", x.tiredness(0, 0), tired - 1);
            }
        }
        FadingSignals one = Checks.loaded("hall 1 0 1 9;kind a 99 20 200;program p;handle p a 1;send p a 0");
        for (int tired = 20; tired > 17; tired--) {
            one.tick(1);
            Checks.due("REST 1: in each tick", one.tiredness(0, 0), tired);
        }
        Checks.textError("hall 1 0 0 9", "2 9");
        Checks.textError("hall 1 0 51 9", "2 9");
        FadingSignals all = Checks.loaded(Refusals.fullHouse() + ";send p a 0;send u h 0");
        all.setKind(0, 1, 2);
        all.tick(1);
        all.set(2, 1);
        for (int tick = 0; tick < 4; tick++) {
            for (int i = 0; i < 48; i++) {
                int at = i == 0 ? 2 : i == 47 ? 1 : 0;
                Checks.due("all of them, not below 0: " + i, all.tiredness(i / 8, i % 8), Math.max(0, at - tick));
            }
            all.tick(1);
        }
    }

    private static void ages() {
        Document.holds("a. All signals of its queue, by numbers, that were sent KEEP of their kinds ticks ago or more,"
                + " are lost by their age.", () -> {
            for (int keep : new int[] {1, 2, 199, 200}) {
                FadingSignals x = Checks.loaded("hall 1 0 50 9;kind a 9 0 " + keep + ";program p;hide p a;send p a 0");
                if (keep > 1) {
                    x.tick(keep - 1);
                }
                Checks.due("KEEP " + keep + ": a tick less", x.whereIs(0), 0);
                x.tick(1);
                Checks.due("KEEP " + keep, x.whereIs(0), 22);
            }
            FadingSignals x = Checks.loaded("hall 1 0 50 9;kind a 5 0 99;kind b 9 0 99;kind c 7 0 9;program p;hide p a"
                    + ";hide p b;hide p c;send p a 0;send p c 0;send p b 0;send p a 0");
            x.tick(5);
            x.send(0, 0, 0);
            x.setKind(0, 2, 4);
            x.setKind(1, 2, 6);
            x.tick(1);
            Checks.due("or more; by numbers, not in the order", Checks.ends(x), "3:2 2:2 0:2");
            Checks.due("the others stay", Checks.queue(x, 0), "1 4");
            FadingSignals y = Checks.loaded("hall 1 0 50 9;kind a 9 0 1;program p;handle p a 1 raise a p 0");
            y.send(0, 0, 0);
            y.tick(1);
            Checks.due("lost before its handler could begin", Checks.ends(y), "0:2");
            FadingSignals z = Checks.loaded("hall 1 0 50 9;kind a 9 0 1;kind b 9 0 2;program p;handle p b 3 raise a p 0"
                    + ";send p b 0");
            z.tick(3);
            Checks.due("not one of a running handler, nor one that is sent in this tick",
                    Checks.ends(z) + "/" + Checks.queue(z, 0), "0:0/1");
        });
    }

    private static void begin() {
        Document.holds("b. It looks for a signal to begin: the first one in the order whose kind is not in its mask.",
                () -> {
            String text = "hall 1 0 50 9;kind a 9 0 9;kind b 8 0 9;kind c 7 0 9;program p;handle p a 5;handle p b 5"
                    + ";handle p c 5";
            String sends = ";send p c 0;send p b 0;send p a 0";
            String[] hidden = {"", ";hide p a", ";hide p b", ";hide p b;hide p a", ";hide p a;hide p b;hide p c"};
            int[] begins = {2, 1, 2, 0, -1};
            for (int i = 0; i < hidden.length; i++) {
                FadingSignals x = Checks.loaded(text + sends + hidden[i]);
                x.tick(1);
                Checks.due("hidden:" + hidden[i], x.program(0, 1) == 0 ? -1 : x.running(0, 0, 0), begins[i]);
            }
            FadingSignals same = Checks.loaded(text + ";send p c 0;send p b 0;send p b 0;hide p a");
            same.tick(1);
            Checks.due("of several the smallest number", same.running(0, 0, 0), 1);
            FadingSignals empty = Checks.loaded(text);
            Checks.due("an empty queue", empty.tick(1) + empty.program(0, 1), 0);
        });
        Document.holds("If there is one, and the stack is empty,", () -> {
            FadingSignals x = Checks.loaded("hall 1 50 50 9;kind a 1 0 9;program p;handle p a 2;send p a 0;send p a 0");
            x.tick(1);
            Checks.due("whatever NEST and the urgency are", x.whereIs(0), 10);
            x.tick(1);
            Checks.due("the second one waits for the end of the first", x.whereIs(1), 0);
            x.tick(1);
            Checks.due("the stack is empty again", x.whereIs(1), 10);
        });
        Document.holds("or the urgency of its kind is greater than the level of the handler on top of the stack plus"
                + " NEST (0 to 50)", TickBounds::nesting);
        Document.holds("and there are fewer than DEPTH handlers in the stack, it leaves the queue; otherwise none"
                + " begins in this tick", TickBounds::depth);
        Document.holds("(no other one is asked; so one with the urgency 0 fades only if the stack is empty).",
                TickBounds::noOther);
        Document.holds("If the urgency of its kind is 0, it fades; otherwise, if there is no handler for it, it is lost"
                + " without a handler;", () -> {
            FadingSignals x = Checks.loaded("hall 1 0 50 9;kind a 10 10 99;kind b 11 10 99;kind c 1 0 99;program p"
                    + ";program q;handle p a 1;handle p b 1;send p a 0;send p b 0");
            x.tick(2);
            x.send(0, 0, 0);
            x.send(0, 2, 0);
            x.tick(1);
            Checks.due("the urgency 0 with a handler, 1 without one", Checks.ends(x), "2:1 3:4 0:0 1:0");
            x.send(0, 1, 0);
            x.tick(1);
            Checks.due("the urgency 1 with a handler", x.whereIs(4), 20);
            FadingSignals y = Checks.loaded("hall 1 0 50 9;kind a 10 10 99;program p;handle p a 1;send p a 0");
            y.setKind(0, 0, 1);
            y.tick(1);
            y.send(0, 0, 0);
            y.tick(1);
            Checks.due("an urgency that would be below 0", y.whereIs(1), 21);
        });
        Document.holds("in both cases it looks again, as at the beginning of b.", TickBounds::looksAgain);
        Document.holds("Otherwise its handler comes on top of the stack, with this urgency as its level, which stays,"
                + " and its TICKS as what is left of it;", () -> {
            for (int ticks : new int[] {2, 20}) {
                FadingSignals x = Checks.loaded("hall 4 0 50 9;kind a 10 4 99;kind b 99 0 99;program p;handle p a "
                        + ticks
                        + ";handle p b 3;send p a 0");
                x.tick(1);
                Checks.due("level, and what is left behind this tick", x.running(0, 0, 2) + " " + x.running(0, 0, 3),
                        "10 " + (ticks - 1));
                x.setKind(0, 0, 1);
                x.send(0, 1, 0);
                x.tick(1);
                Checks.due("the level stays", x.running(0, 1, 2), 10);
                Checks.due("the new one is on top", x.running(0, 0, 1) + " " + x.running(0, 0, 2), "1 99");
            }
            FadingSignals tired = Checks.loaded("hall 4 0 50 9;kind a 10 9 99;program p;handle p a 2;send p a 0;send p"
                    + " a 0");
            tired.tick(3);
            Checks.due("the level is the urgency for the program", tired.running(0, 0, 2), 1);
        });
        Document.holds("no further one begins in this tick.", () -> {
            FadingSignals x = Checks.loaded("hall 4 0 50 9;kind a 10 0 99;kind b 99 0 99;program p;handle p a 1;handle"
                    + " p b 1;send p a 0;send p b 0;send p b 0");
            for (int tick = 1; tick <= 3; tick++) {
                Checks.due("one in each tick", x.tick(1), 1);
            }
            FadingSignals y = Checks.loaded("hall 4 0 50 9;kind a 10 0 99;kind b 5 0 99;program p;handle p a 1 raise b"
                    + " p 0;handle p b 1;send p a 0");
            Checks.due("not one that is sent at its end, either", y.tick(1), 1);
        });
    }

    private static void nesting() {
        int[][] cases = {{0, 10, 9, 0}, {0, 10, 10, 0}, {0, 10, 11, 1}, {1, 10, 11, 0}, {1, 10, 12, 1}, {50, 49, 99, 0},
            {50, 48, 99, 1}, {50, 50, 99, 0}, {0, 98, 99, 1}, {0, 99, 99, 0}};
        for (int[] one : cases) {
            FadingSignals x = Checks.loaded("hall 2 " + one[0] + " 50 9;kind a " + one[1] + " 0 99;kind b " + one[2]
                    + " 0 99;program p;handle p a 9;handle p b 9;send p a 0");
            x.tick(1);
            x.send(0, 1, 0);
            x.tick(1);
            String what = "NEST " + one[0] + ", level " + one[1] + ", urgency " + one[2];
            Checks.due(what, x.program(0, 1), 1 + one[3]);
        }
        Checks.textError("hall 1 51 50 9", "2 7");
        FadingSignals x = Checks.loaded("hall 3 0 50 9;kind a 10 0 99;kind b 30 0 99;kind c 20 0 99;program p;handle p"
                + " a 9;handle p b 9;handle p c 9;send p a 0");
        x.tick(1);
        x.send(0, 1, 0);
        x.tick(1);
        x.send(0, 2, 0);
        x.tick(1);
        Checks.due("of the handler on top alone", x.program(0, 1), 2);
    }

    private static void depth() {
        for (int depth = 1; depth <= 4; depth++) {
            FadingSignals x = Checks.loaded("hall 4 0 50 9;kind a 10 0 99;kind b 20 0 99;kind c 30 0 99;kind d 40 0 99"
                    + ";kind e 50 0 99;program p;handle p a 9;handle p b 9;handle p c 9;handle p d 9;send p a 0");
            for (int kind = 1; kind < depth; kind++) {
                x.tick(1);
                x.send(0, kind, 0);
            }
            x.tick(1);
            x.set(0, depth);
            x.send(0, 4, 0);
            x.tick(1);
            Checks.due("DEPTH handlers: one without a handler stays, too", x.whereIs(depth), 0);
            x.set(0, 1);
            x.tick(1);
            Checks.due("more than DEPTH handlers", x.whereIs(depth), 0);
            x.set(0, Math.min(4, depth + 1));
            x.tick(1);
            Checks.due("one fewer than DEPTH", x.whereIs(depth), depth < 4 ? 24 : 0);
        }
    }

    private static void noOther() {
        String text = "hall 2 0 50 9;kind a 20 0 99;kind b 10 0 99;kind c 5 5 99;program p;handle p a 3;handle p b 1"
                + ";handle p c 1;send p c 0";
        FadingSignals x = Checks.loaded(text);
        x.tick(1);
        x.send(0, 0, 0);
        x.tick(1);
        x.send(0, 1, 0);
        x.send(0, 2, 0);
        x.tick(1);
        Checks.due("the first one may not begin: the one with the urgency 0 stays", Checks.queue(x, 0), "2 3");
        x.clear(0);
        x.send(0, 2, 0);
        x.tick(1);
        Checks.due("with the urgency 0 alone, and the handler in its last tick", Checks.queue(x, 0), "4");
        x.tick(1);
        Checks.due("the stack is empty", x.whereIs(4), 21);
    }

    private static void looksAgain() {
        String text = "hall 4 0 50 12;kind a 10 10 99;kind b 20 0 99;kind c 5 0 99;program p;handle p a 1;handle p c 2"
                + ";send p a 0";
        FadingSignals x = Checks.loaded(text);
        x.tick(1);
        for (int i = 0; i < 6; i++) {
            x.send(0, 0, 0);
            x.send(0, 1, 0);
        }
        Checks.due("all of a full queue", x.tick(1), 12);
        Checks.due("in the order", Checks.ends(x), "11:1 9:1 7:1 5:1 3:1 1:1 12:4 10:4 8:4 6:4 4:4 2:4 0:0");
        for (int i = 0; i < 11; i++) {
            x.send(0, 1, 0);
        }
        x.send(0, 2, 0);
        Checks.due("eleven of them", x.tick(1), 11);
        Checks.due("the twelfth one begins", x.whereIs(24), 10);
        FadingSignals y = Checks.loaded("hall 4 0 50 12;kind a 10 0 99;kind b 20 0 99;kind c 15 0 99;program p"
                + ";handle p a 9;handle p c 2;send p a 0");
        y.tick(1);
        y.send(0, 1, 0);
        y.send(0, 2, 0);
        y.send(0, 1, 0);
        y.tick(1);
        Checks.due("above a running handler, too", Checks.ends(y) + "/" + y.running(0, 0, 0), "3:4 1:4/2");
    }

    private static void work() {
        Document.holds("c. What is left of the handler on top of the stack, if there is one (also one that began in"
                + " this tick), becomes less by 1.", () -> {
            FadingSignals x = Checks.loaded("hall 2 0 50 9;kind a 10 0 99;kind b 20 0 99;program p;handle p a 5;handle"
                    + " p b 3");
            Checks.due("no handler", x.tick(1) + x.program(0, 1), 0);
            x.send(0, 0, 0);
            x.tick(1);
            Checks.due("also one that began in this tick", x.running(0, 0, 3), 4);
            x.send(0, 1, 0);
            x.tick(1);
            Checks.due("on top alone", x.running(0, 0, 3) + " " + x.running(0, 1, 3), "2 4");
            x.tick(2);
            Checks.due("not in the tick in which the one above it ends", x.running(0, 0, 3), 4);
            x.tick(1);
            Checks.due("by 1", x.running(0, 0, 3), 3);
        });
        Document.holds("If it is 0 then, the handler ends: it leaves the stack,", () -> {
            for (int ticks : new int[] {1, 2, 20}) {
                FadingSignals x = Checks.loaded("hall 2 0 50 9;kind a 10 0 99;program p;handle p a " + ticks
                        + ";send p a 0");
                for (int tick = 1; tick < ticks; tick++) {
                    x.tick(1);
                    Checks.due("what is left", x.running(0, 0, 3), ticks - tick);
                }
                Checks.due("TICKS " + ticks + ", the last one", x.tick(1), 1);
                Checks.due("it is not in the stack", x.program(0, 1), 0);
            }
        });
        Document.holds("the tiredness of the program for the kind becomes greater by FADE, but not above 99,", () -> {
            int[][] cases = {{0, 0, 0}, {0, 20, 20}, {78, 20, 98}, {79, 20, 99}, {80, 20, 99}, {98, 1, 99}, {98, 0, 98},
                {98, 2, 99}, {98, 20, 99}};
            for (int[] one : cases) {
                FadingSignals x = tired(one[0]);
                x.setKind(0, 1, one[1]);
                x.send(0, 0, 0);
                x.tick(1);
                Checks.due(one[0] + " and FADE " + one[1], x.tiredness(0, 0), one[2]);
                Checks.due("not that of another program", x.tiredness(1, 0), 0);
            }
            FadingSignals nested = Checks.loaded("hall 2 0 50 9;kind a 1 20 99;program p;handle p a 2;send p a 0");
            nested.tick(1);
            nested.setKind(0, 0, 99);
            for (int i = 0; i < 5; i++) {
                nested.send(0, 0, 0);
                nested.tick(2);
            }
            Checks.due("five ended above the first one", nested.tiredness(0, 0) + " " + nested.program(0, 1), "99 1");
            nested.tick(1);
            Checks.due("99 and FADE 20", nested.tiredness(0, 0) + " " + nested.program(0, 1), "99 0");
        });
        Document.holds("the signal is handled, and then the acts are done.", () -> {
            FadingSignals x = Checks.loaded("hall 1 0 50 1;kind a 10 5 99;kind b 7 0 99;program p;handle p a 2 raise a"
                    + " p 1 drop b;send p a 1");
            x.tick(1);
            x.send(0, 1, 1);
            x.tick(1);
            Checks.due("tired, handled, then the acts one behind the other", Checks.ends(x), "1:5 2:3 0:0");
        });
        Document.holds("A signal that is sent in a tick is in its queue at once; a program whose turn in the tick is"
                + " over looks for it in the next one.", () -> {
            for (int to = 0; to < 3; to++) {
                FadingSignals x = Checks.loaded("hall 1 0 50 9;kind a 10 0 99;kind b 10 0 99;program p;program q"
                        + ";program r;handle p b 1;handle q b 1;handle r b 1;handle q a 1 raise b " + (char) ('p' + to)
                        + " 0;send q a 0");
                x.tick(1);
                Checks.due("sent by 1 to " + to, x.whereIs(1), to == 2 ? 20 : to);
                Checks.due("its time", to == 2 ? x.end(0, 2) : x.queue(to, 0, 4), 1);
                x.tick(1);
                Checks.due("in the next tick", x.whereIs(1), 20);
            }
        });
    }

    /** A hall whose first program is tired for its first kind by just so much. */
    private static FadingSignals tired(int by) {
        FadingSignals x = Checks.loaded("hall 1 0 50 9;kind a 99 20 99;program p;program q;handle p a 1");
        for (int left = by; left > 0; left -= 20) {
            x.setKind(0, 1, Math.min(20, left));
            x.send(0, 0, 0);
            x.tick(1);
        }
        Checks.due("tired", x.tiredness(0, 0), by);
        return x;
    }
}
