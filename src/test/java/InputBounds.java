/** Boundary cases of the promises 1 to 7: the input. */
final class InputBounds {
    private static final String TEXT = "hall 1 0 1 1;kind a 9 0 9;program p";
    private static final String USED = "hall 4 9 9 9;kind b 5 5 5;kind c 5 5 5;program q;program r;handle q b 1 mask b"
            + " raise c r 7;handle q c 9 drop c;hide r c;send q b 1;send q c 1;send r c 2";

    private InputBounds() {
    }

    static void look() {
        Document.section("Promise 1: A new object");
        Document.holds("Creates an object without a hall and with an empty input buffer.", () -> {
            FadingSignals x = new FadingSignals();
            Checks.due("the buffer", x.buffered(), 0);
            Checks.state("no hall", () -> x.count(0));
            Checks.index("no text", () -> x.textByte(0));
            Checks.argument("no bytes to parse", () -> x.load(0));
        });
        append();
        load();
        loadErrors();
        parseError();
        errorPosition();
        buffered();
        find();
    }

    private static void append() {
        Document.section("Promise 2: append");
        Document.holds("Appends twenty bytes to the input buffer: the four bytes of each argument in order, the most"
                + " significant byte first.", () -> {
            // What stands behind "hall" is found by the place of the byte that is no blank.
            int[] words = {0xff202020, 0x20ff2020, 0x2020ff20, 0x202020ff, 0x80202020, 0x20202080, 0x00202020,
                    0x20202000};
            int[] places = {0, 1, 2, 3, 0, 3, 0, 3};
            for (int argument = 0; argument < 5; argument++) {
                for (int i = 0; i < words.length; i++) {
                    errorAt(argument, words[i], 4 * argument + places[i]);
                }
                errorAt(argument, 0x3f3e3d3c, 4 * argument);
                errorAt(argument, Integer.MIN_VALUE, 4 * argument);
                errorAt(argument, -1, 4 * argument);
            }
        });
        Document.holds("a: bytes 0 to 3", () -> errorAt(0, 0x2020203f, 3));
        Document.holds("b: bytes 4 to 7", () -> errorAt(1, 0x3f202020, 4));
        Document.holds("c: bytes 8 to 11", () -> errorAt(2, 0x2020203f, 11));
        Document.holds("d: bytes 12 to 15", () -> errorAt(3, 0x3f202020, 12));
        Document.holds("e: bytes 16 to 19", () -> errorAt(4, 0x2020203f, 19));
        Document.holds("Returns the number of bytes in the buffer;", () -> {
            FadingSignals x = new FadingSignals();
            for (int i = 1; i <= 35; i++) {
                Checks.due("append " + i, x.append(-1, 0, Integer.MAX_VALUE, Integer.MIN_VALUE, 7), 20 * i);
            }
        });
        Document.holds("NONE if there would be more than 700, in which case nothing is appended.", () -> {
            FadingSignals x = new FadingSignals();
            Checks.append(x, " ".repeat(700 - TEXT.length()) + TEXT);
            for (int i = 0; i < 3; i++) {
                Checks.due("to 700 bytes", x.append(0, 0, 0, 0, 0), -1);
                Checks.due("nothing is appended", x.buffered(), 700);
            }
            Checks.due("nothing is written over", x.load(700), 1);
            Checks.due("an empty buffer takes it again", x.append(0, 0, 0, 0, 0), 20);
        });
    }

    /** Appends twice; in the second one all is blank but for an argument. */
    private static void errorAt(int argument, int word, int place) {
        FadingSignals x = new FadingSignals();
        int[] words = {0x20202020, 0x20202020, 0x20202020, 0x20202020, 0x20202020};
        Checks.append(x, "hall 1 0 1 1");
        words[argument] = word;
        x.append(words[0], words[1], words[2], words[3], words[4]);
        Checks.argument("a byte that starts no token", () -> x.load(40));
        Checks.due("its place", x.errorPosition(), 20 + place);
    }

    private static void load() {
        Document.section("Promise 3: load");
        Document.holds("Parses the first n bytes of the input buffer and empties the buffer, even if the parse"
                + " fails.", () -> {
            FadingSignals x = new FadingSignals();
            Checks.append(x, "hall 1 0 1 12;program p");
            Checks.due("the first 13 bytes", x.load(13), 0);
            Checks.due("CAP", x.setting(3), 12);
            Checks.due("all of the buffer is gone", x.buffered(), 0);
            Checks.append(x, "hall 1 0 1 12;program p");
            Checks.due("the first 12 bytes", x.load(12) + x.setting(3), 1);
            Checks.append(x, "hall 1 0 1 12;program p");
            Checks.due("all of them, 40", x.load(40), 1);
            Checks.append(x, "hall 1 0 1 12;program p");
            Checks.argument("none of them", () -> x.load(0));
            Checks.due("it is empty if the parse fails", x.buffered(), 0);
            Checks.append(x, TEXT);
            Checks.due("nothing was left of it", Checks.outcome(() -> x.load(TEXT.length())), 1);
        });
        Document.holds("On success the hall replaces the previous one, the time is 0,", InputBounds::replaced);
        Document.holds("nothing can be undone, and no state is saved.", () -> {
            FadingSignals x = Checks.loaded(TEXT);
            x.tick(1);
            x.save(0);
            x.save(1);
            Checks.load(x, TEXT);
            Checks.due("undoable", x.undoable(), 0);
            Checks.state("undo", () -> x.undo());
            Checks.state("restore 0", () -> x.restore(0));
            Checks.state("restore 1", () -> x.restore(1));
            Checks.due("the time stays 0", x.count(3), 0);
        });
        Document.noBoundary("n: number of bytes to parse");
        Document.holds("Returns the number of programs.", () -> {
            StringBuilder text = new StringBuilder("hall 1 0 1 1");
            for (int programs = 0; programs <= 6; programs++) {
                Checks.due("programs", Checks.load(new FadingSignals(), text.toString()), programs);
                text.append(";program ").append((char) ('a' + programs));
            }
        });
    }

    /** However often halls were loaded, used and refused before, nothing of them is left in the one that is loaded. */
    private static void replaced() {
        for (int times = 1; times <= 4; times++) {
            replacedBehind(times, x -> x.undoable());
            replacedBehind(times, x -> x.endIn(4));
            replacedBehind(times, x -> x.bestMask(1));
            replacedBehind(times, x -> Checks.load(x, USED + ";"));
        }
    }

    private static void replacedBehind(int times, Refusals.On lastCall) {
        FadingSignals x = new FadingSignals();
        for (int i = 0; i < times; i++) {
            Checks.load(x, USED);
            x.tick(7);
            x.send(0, 0, 0);
            Checks.outcome(() -> lastCall.answer(x));
        }
        String next = TEXT + ";handle p a 2";
        Checks.load(x, next);
        Checks.due("the time", x.count(3), 0);
        FadingSignals fresh = Checks.loaded(next);
        Checks.due("all is that of the new one", Checks.told(x), Checks.told(fresh));
        Checks.due("it has no acts", x.handler(0, 0, 1), 0);
        Checks.due("the names, too", Checks.find(x, true, "b") + Checks.find(x, false, "q"), -2);
        Checks.due("and those of the new one", Checks.find(x, true, "a") + Checks.find(x, false, "p"), 0);
        x.send(0, 0, 5);
        fresh.send(0, 0, 5);
        Checks.due("it goes on like a new one", x.tick(2), fresh.tick(2));
        Checks.due("all is like that", Checks.told(x), Checks.told(fresh));
    }

    private static void loadErrors() {
        Document.holds("Throws IndexOutOfBoundsException if n is negative or greater than the number of bytes in the"
                + " buffer; the buffer, parseError() and errorPosition() stay", () -> {
            for (int n : new int[] {-1, 21, 40, 700, 701, Integer.MIN_VALUE, Integer.MAX_VALUE}) {
                Refusals.refused("load of " + n, Refusals.INDEX, x -> x.load(n));
            }
            FadingSignals x = new FadingSignals();
            Checks.index("1 of an empty buffer", () -> x.load(1));
            Checks.append(x, "hall 1 0 1 1        ");
            Checks.index("21 of 20", () -> x.load(21));
            Checks.due("the buffer stays", x.buffered(), 20);
            Checks.due("20 of 20", x.load(20), 0);
        });
        Document.holds("Throws IllegalArgumentException if the text has an error; the previous hall stays", () -> {
            String[] texts = {"", "hall 1 0 1", "hall 1 0 1 0", "hall 1 0 1 1;program p;program p", TEXT + ";send p a 1"
                    + ";send p a 2;hide p a;", "hall 4 1 2 3;kind b 7 7 7;kind c 8 8 8;program q;program r;program s"
                    + ";?"};
            String before = Checks.told(Refusals.sample());
            for (String text : texts) {
                FadingSignals x = Refusals.sample();
                int n = text.length();
                Checks.outcome(() -> x.find(true, 0));
                Checks.append(x, text);
                Checks.argument(text, () -> x.load(n));
                Checks.due("the hall behind " + text, Checks.told(x), before);
                Checks.due("its names", Checks.find(x, true, "c") + Checks.find(x, false, "q"), 3);
                FadingSignals y = Refusals.sample();
                Checks.due("what can be undone", x.undo(), y.undo());
                Checks.due("the next number", x.send(0, 0, 0), y.send(0, 0, 0));
                Checks.due("what is saved", x.restore(0), 1);
            }
        });
    }

    private static void parseError() {
        Document.section("Promise 4: parseError");
        Document.holds("Returns the parse error code of the latest call of load that did not throw"
                + " IndexOutOfBoundsException.",
                () -> {
                    FadingSignals x = new FadingSignals();
                    Checks.outcome(() -> Checks.load(x, "hall 0"));
                    Checks.index("of more than the buffer", () -> x.load(1));
                    Checks.index("of less than 0", () -> x.load(-1));
                    Checks.due("stays", x.parseError(), 2);
                    Checks.outcome(() -> Checks.load(x, "hall"));
                    Checks.due("the latest one", x.parseError(), 1);
                });
        Document.holds("Returns the code 1 to 4;", () -> {
            Checks.textError("", "1 0");
            Checks.textError("hall 0", "2 5");
            Checks.textError("hall 1 0 1 1;hide p a", "3 18");
            Checks.textError("hall 1 0 1 1;program a;program b;program c;program d;program e;program f;program",
                    "4 73");
        });
        Document.holds("0 if that call succeeded or if there was none.", () -> {
            FadingSignals x = new FadingSignals();
            Checks.due("none", x.parseError(), 0);
            Checks.index("one that does not count", () -> x.load(1));
            Checks.due("still none", x.parseError(), 0);
            Checks.outcome(() -> x.load(0));
            Checks.due("one that failed", x.parseError(), 1);
            Checks.load(x, TEXT);
            Checks.due("one that succeeded", x.parseError(), 0);
        });
    }

    private static void errorPosition() {
        Document.section("Promise 5: errorPosition");
        Document.holds("Returns the position of the parse error of that call of load.", () -> {
            FadingSignals x = new FadingSignals();
            Checks.append(x, " ".repeat(699) + "?");
            Checks.argument("699 blanks and a mark", () -> x.load(700));
            Checks.due("the last byte", x.errorPosition(), 699);
            Checks.append(x, " ".repeat(699) + "?");
            Checks.argument("699 blanks alone", () -> x.load(699));
            Checks.due("the end of the text", x.errorPosition(), 699);
            Checks.append(x, " ".repeat(700));
            Checks.argument("700 blanks", () -> x.load(700));
            Checks.due("the end of the text", x.errorPosition(), 700);
            Checks.index("one that does not count", () -> x.load(1));
            Checks.due("stays", x.errorPosition(), 700);
            Checks.argument("no bytes", () -> x.load(0));
            Checks.due("the first byte", x.errorPosition(), 0);
        });
        Document.holds("Returns the position; NONE if parseError() is 0.", () -> {
            FadingSignals x = new FadingSignals();
            Checks.due("no call", x.errorPosition(), -1);
            Checks.index("one that does not count", () -> x.load(1));
            Checks.due("still none", x.errorPosition(), -1);
            Checks.outcome(() -> x.load(0));
            Checks.load(x, TEXT);
            Checks.due("one that succeeded", x.errorPosition(), -1);
        });
    }

    private static void buffered() {
        Document.section("Promise 6: buffered");
        Document.holds("Returns the number of bytes in the input buffer.", () -> {
            FadingSignals x = new FadingSignals();
            for (int i = 0; i <= 35; i++) {
                Checks.due("appended", x.buffered(), 20 * i);
                x.append(0, 0, 0, 0, 0);
            }
            Checks.due("no more than 700", x.buffered(), 700);
            Checks.outcome(() -> x.load(1));
            Checks.due("behind load", x.buffered(), 0);
        });
    }

    private static void find() {
        Document.section("Promise 7: find");
        Document.holds("Finds a kind, or a program, by its NAME, which is the first n bytes of the input buffer (all"
                + " of them, blanks too),", () -> {
            FadingSignals x = Checks.loaded("hall 1 0 1 1;kind a 9 0 9;kind ab 9 0 9;kind abcdefg 9 0 9;program b"
                    + ";program bcdefgh");
            Checks.due("1 byte", named(x, true, "abcdefgh", 1), 0);
            Checks.due("2 bytes", named(x, true, "abcdefgh", 2), 1);
            Checks.due("3 bytes", named(x, true, "abcdefgh", 3), -1);
            Checks.due("7 bytes", named(x, true, "abcdefgh", 7), 2);
            Checks.due("8 bytes", named(x, true, "abcdefgh", 8), -1);
            Checks.due("a blank behind", named(x, true, "a ", 2), -1);
            Checks.due("a blank ahead", named(x, true, " a", 2), -1);
            Checks.due("blanks alone", named(x, true, " ", 1), -1);
            Checks.due("a program of 7 bytes", named(x, false, "bcdefgh", 7), 1);
            Checks.due("6 of them", named(x, false, "bcdefgh", 6), -1);
            Checks.due("all of the buffer", named(x, false, "b", 20), -1);
            Checks.due("upper case", named(x, false, "B", 1), -1);
            Checks.due("zeros behind it", named(x, false, "b\0\0\0\0\0\0", 7), -1);
        });
        Document.holds("and empties the buffer, whatever stands behind them.", () -> {
            FadingSignals x = Checks.loaded(TEXT);
            Checks.append(x, "a" + "b".repeat(60));
            Checks.due("found", x.find(true, 1), 0);
            Checks.due("the buffer", x.buffered(), 0);
            Checks.append(x, "zzz");
            Checks.due("not found", x.find(true, 3) + x.buffered(), -1);
            Checks.append(x, "a");
            Checks.due("0 bytes", x.find(true, 0) + x.buffered(), -1);
        });
        Document.holds("kind: true for kinds, false for programs", () -> {
            FadingSignals x = Checks.loaded(TEXT);
            Checks.due("a kind", named(x, true, "a", 1) + named(x, false, "p", 1), 0);
            Checks.due("no program, no kind", named(x, false, "a", 1) + named(x, true, "p", 1), -2);
        });
        Document.noBoundary("n: number of bytes");
        Document.holds("Returns its number; NONE if there is none (0 bytes, too).", () -> {
            FadingSignals x = Checks.loaded(Refusals.fullHouse());
            Checks.due("the first kind", named(x, true, "a", 1), 0);
            Checks.due("the last kind", named(x, true, "h", 1), 7);
            Checks.due("the first program", named(x, false, "p", 1), 0);
            Checks.due("the last program", named(x, false, "u", 1), 5);
            Checks.due("none", named(x, true, "i", 1) + named(x, false, "v", 1), -2);
            Checks.due("0 bytes of a buffer", named(x, true, "a", 0) + named(x, false, "p", 0), -2);
            Checks.due("0 bytes of an empty buffer", x.find(true, 0) + x.find(false, 0), -2);
            FadingSignals none = Checks.loaded("hall 1 0 1 1");
            Checks.due("no kinds and no programs", named(none, true, "a", 1) + named(none, false, "a", 1), -2);
        });
        Document.holds("Throws IllegalStateException if no text was loaded; the buffer stays", () -> {
            Refusals.withoutText(x -> x.find(true, 0));
            Refusals.withoutText(x -> x.find(false, 99));
        });
        Document.holds("Throws IndexOutOfBoundsException if n is negative or greater than the number of bytes in the"
                + " buffer; the buffer stays", () -> {
            for (int n : new int[] {-1, 21, 40, 701, Integer.MIN_VALUE, Integer.MAX_VALUE}) {
                Refusals.refused("find of " + n, Refusals.INDEX, x -> x.find(true, n));
            }
            Refusals.answered("20 of 20", x -> x.find(true, 20));
            FadingSignals x = Checks.loaded(TEXT);
            Checks.index("1 of an empty buffer", () -> x.find(true, 1));
        });
    }

    private static int named(FadingSignals x, boolean kind, String bytes, int n) {
        Checks.append(x, bytes);
        return x.find(kind, n);
    }
}
