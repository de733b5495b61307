/** Boundary cases of the promises 35 to 38: texts. */
final class TextBounds {
    private static final String NO_TEXT = "Throws IllegalStateException if no text was loaded";
    private static final String NO_PROGRAM = "Throws IndexOutOfBoundsException if there is no such program";
    private static final String LENGTH = "Returns the number of bytes of the text.";

    private TextBounds() {
    }

    static void look() {
        writeQueue();
        writeStack();
        writeEnds();
        textByte();
    }

    /** The text that was just written, and that there is no byte behind it. */
    private static String written(FadingSignals x, int length) {
        Checks.index("a byte behind the text", () -> x.textByte(length));
        Checks.index("a byte ahead of the text", () -> x.textByte(-1));
        return Checks.written(x, length);
    }

    /** Six programs that send four signals each in each of 9999 ticks. */
    static FadingSignals manySent() {
        StringBuilder text = new StringBuilder("hall 1 0 50 12;kind abcdefg 99 0 200");
        for (char program = 'p'; program <= 'u'; program++) {
            text.append(";program ").append(program).append(";handle ").append(program).append(" abcdefg1");
            text.append((" raise abcdefg " + program + " 0").repeat(4));
        }
        FadingSignals x = Checks.loaded(text.toString());
        for (int program = 0; program < 6; program++) {
            x.send(program, 0, 999);
        }
        for (int i = 0; i < 49; i++) {
            x.tick(200);
        }
        x.tick(199);
        return x;
    }

    private static void writeQueue() {
        Document.section("Promise 35: writeQueue");
        String text = "hall 1 0 50 12;kind a 9 0 9;kind abcdefg 10 0 9;program p;program q";
        Document.noBoundary("Writes the queue of a program as a text that replaces the text that was written before:");
        Document.holds("for each signal, in the order, its number, a point, the NAME of its kind, an equals sign and"
                + " its value; with a blank between two.", () -> {
            FadingSignals x = Checks.loaded(text);
            Checks.due("an empty queue", written(x, x.writeQueue(1)), "");
            x.send(1, 0, 999);
            Checks.due("one", written(x, x.writeQueue(1)), "0.a=999");
            x.send(1, 1, 10);
            Checks.due("two, in the order", written(x, x.writeQueue(1)), "1.abcdefg=10 0.a=999");
            StringBuilder want = new StringBuilder("1.abcdefg=10 0.a=999");
            for (int i = 2; i < 12; i++) {
                x.send(1, 0, 100 * i % 1000);
                want.append(' ').append(i).append(".a=").append(100 * i % 1000);
            }
            Checks.due("twelve", written(x, x.writeQueue(1)), want.toString());
            Checks.due("the other queue", written(x, x.writeQueue(0)), "");
        });
        Document.holds("Numbers have no leading zeros.", () -> {
            FadingSignals x = Checks.loaded(text + ";send p a 000;send p a 007;send p a 010;send p a 100");
            Checks.due("0 is one digit", written(x, x.writeQueue(0)), "0.a=0 1.a=7 2.a=10 3.a=100");
            FadingSignals many = manySent();
            int length = many.writeQueue(5);
            String[] parts = written(many, length).split(" ");
            Checks.due("parts", parts.length, 12);
            for (int i = 0; i < 12; i++) {
                Checks.due("numbers of up to six digits", parts[i], many.queue(5, i, 0) + ".abcdefg=999");
            }
            Checks.due("at least five digits", many.queue(5, 11, 0) > 9999, true);
        });
        Document.noBoundary("program: number of the program");
        Document.holds(LENGTH, () -> {
            FadingSignals x = Checks.loaded(text);
            int[] want = {0, 5, 11, 17};
            for (int length : want) {
                Checks.due("its bytes", x.writeQueue(0), length);
                x.send(0, 0, 7);
            }
        });
        Document.holds(NO_TEXT, () -> Refusals.withoutText(x -> x.writeQueue(0)));
        Document.holds(NO_PROGRAM, () -> Refusals.noSuchProgram((x, program) -> x.writeQueue(program)));
    }

    private static void writeStack() {
        Document.section("Promise 36: writeStack");
        String text = "hall 4 0 50 12;kind a 9 0 9;kind abcdefg 10 0 9;kind c 11 0 9;kind d 12 0 9;program p;program q"
                + ";handle q a 20;handle q abcdefg 11;handle q c 2;handle q d 10";
        Document.noBoundary("Writes the stack of a program as a text that replaces the text that was written before:");
        Document.holds("for each running handler, the one on top first, the NAME of its kind, a colon and what is left"
                + " of it; with a greater-than sign between two.", () -> {
            FadingSignals x = Checks.loaded(text);
            String[] want = {"", "a:19", "abcdefg:10>a:19", "c:1>abcdefg:10>a:19", "d:9>c:1>abcdefg:10>a:19"};
            for (int kind = 0; kind <= 4; kind++) {
                Checks.due(kind + " running", written(x, x.writeStack(1)), want[kind]);
                Checks.due("the other stack", written(x, x.writeStack(0)), "");
                if (kind < 4) {
                    x.send(1, kind, 0);
                    x.tick(1);
                }
            }
        });
        Document.noBoundary("program: number of the program");
        Document.holds(LENGTH, () -> {
            FadingSignals x = Checks.loaded(text + ";send q a 0");
            Checks.due("an empty one", x.writeStack(1), 0);
            x.tick(10);
            Checks.due("two digits", x.writeStack(1), 4);
            x.tick(1);
            Checks.due("one digit", x.writeStack(1), 3);
            x.send(1, 1, 0);
            x.tick(1);
            Checks.due("two handlers", x.writeStack(1), 14);
        });
        Document.holds(NO_TEXT, () -> Refusals.withoutText(x -> x.writeStack(0)));
        Document.holds(NO_PROGRAM, () -> Refusals.noSuchProgram((x, program) -> x.writeStack(program)));
    }

    private static void writeEnds() {
        Document.section("Promise 37: writeEnds");
        Document.holds("Writes the ends that can be told as a text that replaces the text that was written before, the"
                + " latest first:",
                () -> {
                    for (int ends : new int[] {0, 1, 2, 39, 40, 41, 100}) {
                        FadingSignals x = TellBounds.manyEnds(ends);
                        StringBuilder want = new StringBuilder();
                        for (int i = ends - 1; i >= 0 && i >= ends - 40; i--) {
                            want.append(want.length() > 0 ? " " : "").append(i).append('d');
                        }
                        Checks.due(ends + " ends", written(x, x.writeEnds()), want.toString());
                    }
                });
        Document.holds("for each the number of the signal and one of the letters h, f, a, q, n, d for the ends 0 to 5;"
                + " with a blank between two.", () -> {
            FadingSignals x = Checks.loaded("hall 1 0 50 1;kind a 10 10 99;kind b 9 0 1;program p;handle p a 1;send p"
                    + " a 0");
            x.tick(1);
            Checks.due("one", written(x, x.writeEnds()), "0h");
            x.send(0, 0, 0);
            x.tick(1);
            Checks.due("two", written(x, x.writeEnds()), "1f 0h");
            x.send(0, 1, 0);
            x.tick(1);
            x.setKind(1, 2, 2);
            x.send(0, 1, 0);
            x.send(0, 1, 0);
            x.tick(1);
            x.send(0, 1, 0);
            x.clear(0);
            Checks.due("all six", written(x, x.writeEnds()), "5d 3n 4q 2a 1f 0h");
        });
        Document.holds(LENGTH, () -> {
            FadingSignals x = Checks.loaded("hall 1 0 50 12;kind a 9 0 9;program p");
            for (int ends = 0; ends <= 12; ends++) {
                int length = ends == 0 ? 0 : ends <= 10 ? 3 * ends - 1 : 29 + 4 * (ends - 10);
                Checks.due(ends + " ends", x.writeEnds(), length);
                x.send(0, 0, 0);
                x.drop(ends);
            }
            FadingSignals many = manySent();
            Checks.due("40 ends, numbers of six digits", many.writeEnds(), 319);
            Checks.due("its last byte", many.textByte(318), "hfaqnd".charAt(many.end(39, 1)) + 0);
            Checks.index("no more", () -> many.textByte(319));
        });
        Document.holds(NO_TEXT, () -> Refusals.withoutText(x -> x.writeEnds()));
    }

    private static void textByte() {
        Document.section("Promise 38: textByte");
        Document.noBoundary("Returns a byte of the text that was written last.");
        Document.holds("i: index of the byte, from 0", () -> {
            FadingSignals x = Checks.loaded("hall 1 0 50 12;kind az 9 0 9;program p;send p az 109");
            x.writeQueue(0);
            int[] want = {48, 46, 97, 122, 61, 49, 48, 57};
            for (int i = 0; i < want.length; i++) {
                Checks.due("byte " + i, x.textByte(i), want[i]);
            }
        });
        Document.noBoundary("Returns the byte.");
        Document.holds("Throws IndexOutOfBoundsException if there is no such byte (always, before the first text)",
                () -> {
            FadingSignals fresh = new FadingSignals();
            FadingSignals loaded = Checks.loaded("hall 1 0 50 12;kind a 9 0 9;program p;send p a 1");
            FadingSignals empty = Checks.loaded("hall 1 0 50 12;kind a 9 0 9;program p");
            Checks.due("an empty text", empty.writeQueue(0), 0);
            FadingSignals shorter = Checks.loaded("hall 1 0 50 12;kind a 9 0 9;program p;send p a 1");
            shorter.writeQueue(0);
            shorter.writeStack(0);
            for (int i : new int[] {-1, 0, 1, 4, Integer.MIN_VALUE, Integer.MAX_VALUE}) {
                Checks.index("a new object, " + i, () -> fresh.textByte(i));
                Checks.index("before the first text, " + i, () -> loaded.textByte(i));
                Checks.index("an empty text, " + i, () -> empty.textByte(i));
                Checks.index("an empty text behind another, " + i, () -> shorter.textByte(i));
            }
            Refusals.noSuchIndex(Refusals.sample().writeEnds(), (x, i) -> x.textByte(i));
        });
    }
}
