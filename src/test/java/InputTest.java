/** Promises 1 to 7 and the text format: the empty object, the input buffer, load and its errors, find. */
public final class InputTest {
    private static final String HEAD = "hall 2 5 4 2";
    private static final String KIND = ";kind a 5 1 9";
    private static final String BOTH = HEAD + KIND + ";program p";

    public static void main(String[] args) {
        newObject();
        appending();
        loading();
        failedLoading();
        freshAfterLoading();
        fullHouse();
        tokens();
        wrongTokens();
        bounds();
        names();
        limits();
        sendLines();
        finding();
        Checks.close("InputTest");
    }

    private static void newObject() {
        FadingSignals x = new FadingSignals();
        Checks.due("promise 1: buffered", x.buffered(), 0);
        Checks.due("promise 1: undoable", x.undoable(), 0);
        Checks.due("promise 4: parseError before any load", x.parseError(), 0);
        Checks.due("promise 5: errorPosition before any load", x.errorPosition(), -1);
        Checks.due("the constant NONE", FadingSignals.NONE, -1);
        // The state is looked at before all else, so each argument is wrong, too.
        Checks.state("promise 7 find", () -> x.find(true, -1));
        Checks.state("promise 8 count", () -> x.count(-1));
        Checks.state("promise 9 setting", () -> x.setting(-1));
        Checks.state("promise 10 kind", () -> x.kind(-1, -1));
        Checks.state("promise 11 program", () -> x.program(-1, -1));
        Checks.state("promise 12 handler", () -> x.handler(-1, -1, -1));
        Checks.state("promise 13 urgency", () -> x.urgency(-1, -1));
        Checks.state("promise 14 tiredness", () -> x.tiredness(-1, -1));
        Checks.state("promise 15 queue", () -> x.queue(-1, -1, -1));
        Checks.state("promise 16 running", () -> x.running(-1, -1, -1));
        Checks.state("promise 17 end", () -> x.end(-1, -1));
        Checks.state("promise 18 whereIs", () -> x.whereIs(-1));
        Checks.state("promise 19 next", () -> x.next(-1));
        Checks.state("promise 20 busiest", () -> x.busiest());
        Checks.state("promise 21 tiredest", () -> x.tiredest(-1));
        Checks.state("promise 22 oldest", () -> x.oldest());
        Checks.state("promise 23 loser", () -> x.loser(-1, -1));
        Checks.state("promise 24 meanWait", () -> x.meanWait());
        Checks.state("promise 25 handledShare", () -> x.handledShare());
        Checks.state("promise 26 raisers", () -> x.raisers(-1));
        Checks.state("promise 27 idleIn", () -> x.idleIn(-1));
        Checks.state("promise 28 calmIn", () -> x.calmIn());
        Checks.state("promise 29 endIn", () -> x.endIn(-1));
        Checks.state("promise 30 endOf", () -> x.endOf(-1));
        Checks.state("promise 31 endsIn", () -> x.endsIn(-1, -1));
        Checks.state("promise 32 urgencyIn", () -> x.urgencyIn(-1, -1, -1));
        Checks.state("promise 33 sentIn", () -> x.sentIn(-1));
        Checks.state("promise 34 bestMask", () -> x.bestMask(-1));
        Checks.state("promise 35 writeQueue", () -> x.writeQueue(-1));
        Checks.state("promise 36 writeStack", () -> x.writeStack(-1));
        Checks.state("promise 37 writeEnds", () -> x.writeEnds());
        Checks.index("promise 38 textByte", () -> x.textByte(0));
        Checks.state("promise 39 tick", () -> x.tick(0));
        Checks.state("promise 40 send", () -> x.send(-1, -1, -1));
        Checks.state("promise 41 mask", () -> x.mask(-1, -1, true));
        Checks.state("promise 42 drop", () -> x.drop(-1));
        Checks.state("promise 43 clear", () -> x.clear(-1));
        Checks.state("promise 44 refresh", () -> x.refresh(-1));
        Checks.state("promise 45 setKind", () -> x.setKind(-1, -1, -1));
        Checks.state("promise 46 set", () -> x.set(-1, -1));
        Checks.state("promise 47 undo", () -> x.undo());
        Checks.state("promise 49 save", () -> x.save(-1));
        Checks.index("promise 50 restore", () -> x.restore(-1));
        Checks.index("promise 50 restore", () -> x.restore(2));
        Checks.state("promise 50 restore", () -> x.restore(0));
        Checks.state("promise 50 restore", () -> x.restore(1));
    }

    private static void appending() {
        FadingSignals x = new FadingSignals();
        for (int i = 1; i <= 35; i++) {
            Checks.due("promise 2: append " + i, x.append(0x68616c6c, i, -1, 0, 5), 20 * i);
        }
        Checks.due("promise 2: append to a full buffer", x.append(0, 0, 0, 0, 0), -1);
        Checks.due("promise 6: buffered of a full buffer", x.buffered(), 700);
        Checks.argument("promise 3: a full buffer", () -> x.load(700));
        Checks.due("promise 6: buffered behind load", x.buffered(), 0);
        Checks.due("promise 2: append behind load", x.append(0, 0, 0, 0, 0), 20);

        // "hall 1 0 1 1;program" and " abcdefg" with its bytes in five arguments, the most significant first.
        FadingSignals y = new FadingSignals();
        y.append(0x68616c6c, 0x20312030, 0x20312031, 0x3b70726f, 0x6772616d);
        y.append(0x20616263, 0x64656667, 0x20202020, 0x20202020, 0x20202020);
        Checks.due("promise 2: bytes in order", Checks.outcome(() -> y.load(40)), 1);
        Checks.due("promise 2: bytes in order, the name", Checks.find(y, false, "abcdefg"), 0);
    }

    private static void loading() {
        FadingSignals x = new FadingSignals();
        Checks.index("promise 3: n below 0", () -> x.load(-1));
        Checks.index("promise 3: n above the buffer", () -> x.load(1));
        Checks.append(x, BOTH + ";program q;;;");
        int full = x.buffered();
        Checks.index("promise 3: n above the buffer", () -> x.load(full + 1));
        Checks.index("promise 3: n far below 0", () -> x.load(Integer.MIN_VALUE));
        Checks.index("promise 3: n far above", () -> x.load(Integer.MAX_VALUE));
        Checks.due("promise 3: the buffer stays", x.buffered(), full);
        Checks.due("promise 3: the first bytes alone", x.load((BOTH + ";program q").length()), 2);
        Checks.due("promise 3: the buffer is emptied", x.buffered(), 0);
        Checks.due("promise 4: no error", x.parseError(), 0);
        Checks.due("promise 5: no error", x.errorPosition(), -1);
        Checks.due("promise 3: no programs", Checks.load(new FadingSignals(), HEAD), 0);
        Checks.due("promise 3: all bytes of the buffer", Checks.load(new FadingSignals(), "hall 1 0 1 1;program"
                + " abcdefg            "), 1);
    }

    private static void failedLoading() {
        FadingSignals x = Checks.loaded(BOTH);
        x.tick(3);
        x.save(1);
        Checks.argument("promise 3: an error", () -> Checks.load(x, HEAD + ";zap"));
        Checks.due("promise 3: the buffer is emptied by a failure", x.buffered(), 0);
        Checks.due("promise 4: the code of the failure", x.parseError(), 1);
        Checks.due("promise 5: the position of the failure", x.errorPosition(), 13);
        Checks.due("promise 3: the previous hall stays", x.count(3), 3);
        Checks.due("promise 3: its names stay", Checks.find(x, false, "p"), 0);
        Checks.due("promise 3: what can be undone stays", x.undoable(), 1);
        Checks.due("promise 3: what is saved stays", x.restore(1), 3);
        Checks.index("promise 4: an index that is wrong", () -> x.load(1));
        Checks.due("promise 4: stays by IndexOutOfBoundsException", x.parseError(), 1);
        Checks.due("promise 5: stays by IndexOutOfBoundsException", x.errorPosition(), 13);
        // The hall in which texts are read must not show in what would be.
        Checks.argument("promise 3: an error behind much", () -> Checks.load(x, BOTH + ";program q;send p a 5;"));
        Checks.due("promise 3: still one program", x.count(1), 1);
        Checks.due("promise 3: no signal was sent", x.count(4), 0);
        Checks.due("promise 3: what would be is that of the hall", x.calmIn(), 0);
        Checks.load(x, BOTH);
        Checks.due("promise 4: 0 behind a success", x.parseError(), 0);
        Checks.due("promise 5: NONE behind a success", x.errorPosition(), -1);
    }

    private static void freshAfterLoading() {
        FadingSignals x = Checks.loaded("hall 2 5 4 2;kind a 5 1 9;program p;handle p a 1 mask a;send p a 3");
        x.tick(2);
        x.send(0, 0, 1);
        x.save(0);
        x.setKind(0, 0, 77);
        x.set(2, 9);
        Checks.due("promise 3: a second load", Checks.load(x, "hall 3 6 7 8;kind b 4 0 8;program q;program r"), 2);
        Checks.due("promise 3: the time is 0", x.count(3), 0);
        Checks.due("promise 3: nothing can be undone", x.undoable(), 0);
        Checks.state("promise 3: nothing can be undone", () -> x.undo());
        Checks.state("promise 3: nothing is saved", () -> x.restore(0));
        Checks.due("promise 3: no handler of the first hall", x.count(2), 0);
        Checks.due("promise 3: no act of the first hall", x.handler(0, 0, 0), -1);
        Checks.due("promise 3: no signal of the first hall", x.count(4), 0);
        Checks.due("promise 3: no end of the first hall", x.count(13), 0);
        Checks.due("promise 3: no mask of the first hall", x.program(0, 2), 0);
        Checks.due("promise 3: no tiredness of the first hall", x.tiredness(0, 0), 0);
        Checks.due("promise 3: settings of the second hall", x.setting(2), 7);
        Checks.due("promise 3: numbers of the second hall", x.kind(0, 0), 4);
        Checks.due("promise 3: no sum of waits of the first hall", x.meanWait(), 0.0);
        Checks.due("promise 3: no counts of the first hall", x.program(0, 4) + x.program(0, 6) + x.program(0, 7), 0);
        Checks.due("promise 3: no NAME of the first hall", Checks.find(x, true, "a"), -1);
    }

    /** Eight kinds and six programs, all with numbers of their own, and handlers of the last of them. */
    private static void fullHouse() {
        StringBuilder text = new StringBuilder(HEAD);
        for (int k = 0; k < 8; k++) {
            text.append(";kind ").append((char) ('s' + k)).append(' ').append(90 + k).append(' ').append(10 + k)
                    .append(' ').append(100 + k);
        }
        for (int p = 0; p < 6; p++) {
            text.append(";program ").append((char) ('u' + p));
        }
        text.append(";handle z z 20 raise z z 999 mask z unmask z drop z;handle u s 1 drop s");
        for (int p = 0; p < 6; p++) {
            text.append(";hide ").append((char) ('u' + p)).append(' ').append((char) ('s' + p));
            text.append(";send ").append((char) ('u' + p)).append(' ').append((char) ('s' + p)).append(" 1");
        }
        FadingSignals x = Checks.loaded(text.toString());
        for (int k = 0; k < 8; k++) {
            Checks.due("eight kinds", x.kind(k, 0) * 100000 + x.kind(k, 1) * 1000 + x.kind(k, 2),
                    (90 + k) * 100000 + (10 + k) * 1000 + 100 + k);
            Checks.due("eight names", Checks.find(x, true, "" + (char) ('s' + k)), k);
        }
        for (int p = 0; p < 6; p++) {
            Checks.due("six names", Checks.find(x, false, "" + (char) ('u' + p)), p);
            Checks.due("six masks", x.program(p, 2), 1 << p);
            Checks.due("six queues", x.queue(p, 0, 0), p);
            Checks.due("six counts", x.program(p, 4), 1);
            x.clear(p);
            Checks.due("six counts of ends", x.program(p, 7), 1);
        }
        int[] acts = {0, 7, 5, 999, 1, 7, -1, -1, 2, 7, -1, -1, 3, 7, -1, -1};
        for (int i = 0; i < acts.length; i++) {
            Checks.due("the last act of all", x.handler(5, 7, 10 * (i / 4) + 10 + i % 4), acts[i]);
        }
        Checks.due("the first handler of all", x.handler(0, 0, 10), 3);
        x.send(5, 7, 5);
        x.tick(20);
        Checks.due("the last program is tired of the last kind", x.tiredness(5, 7), 17);
        Checks.due("it sent a signal", x.program(5, 5), 1);
    }

    private static void fine(String text) {
        FadingSignals x = new FadingSignals();
        Checks.answers("promise 3: " + text, "fine", () -> {
            Checks.load(x, text);
            return "fine";
        });
        Checks.due("promise 4: " + text, x.parseError(), 0);
        Checks.due("promise 5: " + text, x.errorPosition(), -1);
    }

    private static void wrong(String text, int code, int position) {
        FadingSignals x = new FadingSignals();
        Checks.argument("promise 3: " + text, () -> Checks.load(x, text));
        Checks.due("promise 4: " + text, x.parseError(), code);
        Checks.due("promise 5: " + text, x.errorPosition(), position);
        Checks.state("no hall behind " + text, () -> x.count(0));
    }

    private static void tokens() {
        fine("   hall   2 5 4 2   ;  kind  a 5 1 9  ; program p ");
        fine("hall2 5 4 2;kind a5 1 9;program p;handle p a3mask a");
        fine("hall 002 005 04 2;kind a 099 020 200");
        fine("hall 1 0 1 1");
        fine("hall 1 0 1 1;kind zabcdyz 9 9 9;program azbycxz");
        fine("hall 4 50 50 12");
        fine(HEAD + ";kind kind 1 0 1;kind raise 99 20 200;kind mask 5 5 5;program program;program hall;handle hall"
                + " raise 20 raise mask program 999 mask raise unmask kind drop mask;hide hall mask"
                + ";send hall kind 000;send program raise 999");
        fine(HEAD + ";kind a 1 0 1;program a;handle a a 1 raise a a 0");
        fine(BOTH + ";handle p a 1 mask a mask a mask a mask a;hide p a");
    }

    private static void wrongTokens() {
        wrong("", 1, 0);
        wrong("   ", 1, 3);
        wrong("hal 2 5 4 2", 1, 0);
        wrong("halls 2 5 4 2", 1, 0);
        wrong("5", 1, 0);
        wrong("fall 2 5 4 2", 1, 0);
        wrong("hali 2 5 4 2", 1, 0);
        wrong(BOTH + ";handle p a 3 bask a", 1, 49);
        wrong(BOTH + ";hid p a", 1, 36);
        wrong("hall 2 5 4 2;kind a{ 5 1 9", 1, 19);
        wrong("hall 2 5 4 2;kind a` 5 1 9", 1, 19);
        wrong("hall 2 5 4 2;kind a 5: 1 9", 1, 21);
        wrong("hall 2 5 4 2;kind a 5/ 1 9", 1, 21);
        wrong(";", 1, 0);
        wrong("hall", 1, 4);
        wrong("hall  ", 1, 6);
        wrong("hall 2 5 4", 1, 10);
        wrong("hall x", 1, 5);
        wrong("hall ;", 1, 5);
        wrong("hall 0001 5 4 2", 1, 5);
        wrong("hall 9999999999999999 5 4 2", 1, 5);
        wrong("hall 2 5 4 2 1", 1, 13);
        wrong("hall 2 5 4 2 kind a 5 1 9", 1, 13);
        wrong(HEAD + ";", 1, 13);
        wrong(HEAD + ";  ", 1, 15);
        wrong(HEAD + ";;", 1, 13);
        wrong(HEAD + ";7", 1, 13);
        wrong(HEAD + ";hall 2 5 4 2", 1, 13);
        wrong(HEAD + ";raise a p 5", 1, 13);
        wrong(HEAD + ";kinds a 5 1 9", 1, 13);
        wrong(HEAD + ";kind", 1, 17);
        wrong(HEAD + ";kind 5", 1, 18);
        wrong(HEAD + ";kind abcdefgh 5 1 9", 1, 18);
        wrong(HEAD + ";kind A 5 1 9", 1, 18);
        wrong(HEAD + ";kind a 5 1", 1, 23);
        wrong(HEAD + ";kind a 5 b", 1, 22);
        wrong(HEAD + ";kind aB 5 1 9", 1, 19);
        wrong(HEAD + KIND + " 3", 1, 26);
        wrong(HEAD + KIND + ",", 1, 25);
        wrong(HEAD + ";program p q", 1, 23);
        wrong(HEAD + ";program ;", 1, 21);
        wrong("hall 2 5 4 2\n", 1, 12);
        wrong("hall 2 5 4 2\u00e9", 1, 12);
        wrong("hall\u0000", 1, 4);
        wrong("hall -1", 1, 5);
        wrong(BOTH + ";handle", 1, 42);
        wrong(BOTH + ";handle 5", 1, 43);
        wrong(BOTH + ";handle p 5", 1, 45);
        wrong(BOTH + ";handle p a", 1, 46);
        wrong(BOTH + ";handle p a b", 1, 47);
        wrong(BOTH + ";handle p a 3 zap", 1, 49);
        wrong(BOTH + ";handle p a 3 kind", 1, 49);
        wrong(BOTH + ";handle p a 3 5", 1, 49);
        wrong(BOTH + ";handle p a 3 mask", 1, 53);
        wrong(BOTH + ";handle p a 3 mask;", 1, 53);
        wrong(BOTH + ";handle p a 3 mask a 5", 1, 56);
        wrong(BOTH + ";handle p a 3 raise a", 1, 56);
        wrong(BOTH + ";handle p a 3 raise a 1", 1, 57);
        wrong(BOTH + ";handle p a 3 raise a p", 1, 58);
        wrong(BOTH + ";handle p a 3 raise a p 1000", 1, 59);
        wrong(BOTH + ";handle p a 3 raise a p;", 1, 58);
        wrong(BOTH + ";handle p a 3 mask a mask a mask a mask a maskmask a", 1, 77);
        wrong(BOTH + ";handle p a 3 mask a mask a mask a mask a zap a", 1, 77);
        wrong(BOTH + ";handle p a 3 mask a mask a mask a mask a 5", 1, 77);
        wrong(BOTH + ";hide", 1, 40);
        wrong(BOTH + ";hide p", 1, 42);
        wrong(BOTH + ";hide p a p", 1, 45);
        wrong(BOTH + ";send p a", 1, 44);
        wrong(BOTH + ";send p a b", 1, 45);
        wrong(BOTH + ";send p a 1000", 1, 45);
        wrong(BOTH + ";send p a 5 5", 1, 47);
    }

    private static void bounds() {
        wrong("hall 0 5 4 2", 2, 5);
        wrong("hall 5 5 4 2", 2, 5);
        wrong("hall 2 51 4 2", 2, 7);
        wrong("hall 2 5 0 2", 2, 9);
        wrong("hall 2 5 51 2", 2, 9);
        wrong("hall 2 5 4 0", 2, 11);
        wrong("hall 2 5 4 13", 2, 11);
        wrong("hall 2 5 4 999;?", 2, 11);
        wrong(HEAD + ";kind a 0 1 9", 2, 20);
        wrong(HEAD + ";kind a 100 1 9", 2, 20);
        wrong(HEAD + ";kind a 99 21 9", 2, 23);
        wrong(HEAD + ";kind a 1 0 0", 2, 24);
        wrong(HEAD + ";kind a 1 20 201", 2, 25);
        wrong(BOTH + ";handle p a 0", 2, 47);
        wrong(BOTH + ";handle p a 000 zap", 2, 47);
        wrong(BOTH + ";handle p a 21", 2, 47);
        fine(BOTH + ";handle p a 20 raise a p 999");
        fine(BOTH + ";handle p a 1 raise a p 0;send p a 999;send p a 0");
    }

    private static void names() {
        wrong(HEAD + KIND + ";kind a 0 1 9", 3, 31);
        wrong(BOTH + ";program p", 3, 44);
        wrong(HEAD + ";kind ab 1 0 1;kind abc 1 0 1;kind b 1 0 1;kind ab", 3, 60);
        wrong(BOTH + ";handle q a 1", 3, 43);
        wrong(BOTH + ";handle a a 1", 3, 43);
        wrong(BOTH + ";handle p p 1", 3, 45);
        wrong(BOTH + ";handle p aa 1", 3, 45);
        wrong(BOTH + ";handle p a 1;handle p a 99", 3, 58);
        wrong(BOTH + ";handle p a 1 mask b", 3, 54);
        wrong(BOTH + ";handle p a 1 unmask p", 3, 56);
        wrong(BOTH + ";handle p a 1 drop b", 3, 54);
        wrong(BOTH + ";handle p a 1 raise p p 1", 3, 55);
        wrong(BOTH + ";handle p a 1 raise a a 1", 3, 57);
        wrong(BOTH + ";hide q a", 3, 41);
        wrong(BOTH + ";hide p b", 3, 43);
        wrong(BOTH + ";hide p a;hide p a", 3, 52);
        wrong(BOTH + ";send q a 1", 3, 41);
        wrong(BOTH + ";send p b 1", 3, 43);
        wrong(HEAD + ";program p;handle p a 1;kind a 5 1 9", 3, 32);
        wrong(HEAD + KIND + ";handle p a 1;program p", 3, 33);
        fine(BOTH + ";kind b 1 1 1;program q;handle p a 1;handle q a 1;handle p b 1;handle q b 1;hide p a;hide q a"
                + ";hide p b;hide q b");
    }

    private static String lines(String line, int from, int count, String rest) {
        StringBuilder text = new StringBuilder();
        for (int i = from; i < from + count; i++) {
            text.append(line).append((char) ('a' + i)).append(rest);
        }
        return text.toString();
    }

    private static void limits() {
        String eight = HEAD + lines(";kind ", 0, 8, " 1 0 1");
        fine(eight);
        wrong(eight + ";kind", 4, eight.length() + 1);
        wrong(eight + "; kind 5", 4, eight.length() + 2);
        wrong(eight + ";kind a 1 0 1", 4, eight.length() + 1);
        wrong(eight + ";kindred 1 0 1", 1, eight.length() + 1);
        String six = HEAD + lines(";program ", 0, 6, "");
        fine(six);
        wrong(six + ";program", 4, six.length() + 1);
        wrong(six + ";program a", 4, six.length() + 1);
        String four = BOTH + ";handle p a 3 mask a drop a raise a p 1 unmask a";
        fine(four);
        fine(four + ";kind b 1 1 1;handle p b 1 mask a mask a mask a mask a");
        for (String act : new String[] {"mask", "unmask", "drop", "raise"}) {
            wrong(four + " " + act, 4, four.length() + 1);
        }
        String twelve = BOTH + ";send p a 1".repeat(12);
        fine(twelve);
        wrong(twelve + ";send", 4, twelve.length() + 1);
        wrong(twelve + ";send z", 4, twelve.length() + 1);
    }

    private static void sendLines() {
        FadingSignals x = Checks.loaded("hall 2 5 4 2;kind a 5 1 9;kind b 7 1 9;program p;send p a 1;send p b 2"
                + ";send p a 3;send p b 4");
        Checks.due("text: signals that were sent", x.count(4), 4);
        Checks.due("text: signals lost by a full queue", x.count(10), 2);
        Checks.due("text: the latest end", x.end(0, 0), 0);
        Checks.due("text: the first end is that of a signal just sent", x.end(1, 0), 2);
        Checks.due("text: at the time 0", x.end(0, 2), 0);
        Checks.due("text: the first of the queue", x.queue(0, 0, 0), 1);
        Checks.due("text: the second of the queue", x.queue(0, 1, 0), 3);
        Checks.due("text: sent by nobody", x.queue(0, 0, 2), -1);
        Checks.due("text: signals sent to the program", x.program(0, 4), 4);
        Checks.due("text: signals with another end", x.program(0, 7), 2);
        Checks.due("text: nothing can be undone", x.undoable(), 0);
    }

    private static void finding() {
        FadingSignals x = Checks.loaded(HEAD + ";kind ab 5 1 9;kind a 5 1 9;kind abcdefg 1 0 1;program a;program b");
        Checks.due("promise 7: a kind", Checks.find(x, true, "ab"), 0);
        Checks.due("promise 7: a kind", Checks.find(x, true, "a"), 1);
        Checks.due("promise 7: a kind of seven letters", Checks.find(x, true, "abcdefg"), 2);
        Checks.due("promise 7: a program", Checks.find(x, false, "a"), 0);
        Checks.due("promise 7: a program", Checks.find(x, false, "b"), 1);
        Checks.due("promise 7: no kind", Checks.find(x, true, "b"), -1);
        Checks.due("promise 7: no program", Checks.find(x, false, "ab"), -1);
        Checks.due("promise 7: a longer word", Checks.find(x, true, "abc"), -1);
        Checks.due("promise 7: blanks count", Checks.find(x, true, "a "), -1);
        Checks.due("promise 7: blanks count", Checks.find(x, true, " a"), -1);
        Checks.due("promise 7: 0 bytes", Checks.find(x, true, ""), -1);
        Checks.append(x, "ab and what stands behind");
        Checks.due("promise 7: the first bytes alone", x.find(true, 2), 0);
        Checks.due("promise 7: the buffer is emptied", x.buffered(), 0);
        Checks.append(x, "ab");
        Checks.due("promise 7: 0 bytes of more", x.find(true, 0), -1);
        Checks.due("promise 7: the buffer is emptied by 0 bytes", x.buffered(), 0);
        Checks.append(x, "ab");
        Checks.index("promise 7: n below 0", () -> x.find(true, -1));
        Checks.index("promise 7: n above the buffer", () -> x.find(true, 21));
        Checks.index("promise 7: n far below 0", () -> x.find(false, Integer.MIN_VALUE));
        Checks.due("promise 7: the buffer stays", x.buffered(), 20);
        Checks.due("promise 7: all of the buffer", x.find(true, 20), -1);
        FadingSignals none = new FadingSignals();
        Checks.append(none, "ab");
        Checks.state("promise 7: without a hall", () -> none.find(true, 2));
        Checks.due("promise 7: the buffer stays without a hall", none.buffered(), 20);
        FadingSignals empty = Checks.loaded(HEAD);
        Checks.due("promise 7: no kinds at all", Checks.find(empty, true, "a"), -1);
        Checks.due("promise 7: no programs at all", Checks.find(empty, false, "a"), -1);
    }
}
