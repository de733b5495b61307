/** Promises 35 to 38: texts. */
public final class TextTest {
    public static void main(String[] args) {
        queues();
        stacks();
        ends();
        manyEnds();
        longNumbers();
        bytes();
        staying();
        Checks.close("TextTest");
    }

    private static void queues() {
        FadingSignals x = Checks.loaded("hall 1 0 50 12;kind abcdefg 10 0 200;kind b 20 0 200;program p;program q"
                + ";send p abcdefg 7;send p abcdefg 0;send p b 999;send p b 100");
        Checks.due("promise 35", Checks.written(x, x.writeQueue(0)), "2.b=999 3.b=100 0.abcdefg=7 1.abcdefg=0");
        Checks.due("promise 35: the length", x.writeQueue(0), 39);
        Checks.due("promise 35: an empty queue", x.writeQueue(1), 0);
        Checks.index("promise 38: an empty text", () -> x.textByte(0));
        Checks.index("promise 35: below", () -> x.writeQueue(-1));
        Checks.index("promise 35: above", () -> x.writeQueue(2));
        for (int i = 4; i < 13; i++) {
            x.send(1, 1, 10 * i);
        }
        x.send(1, 0, 1);
        Checks.due("promise 35: numbers of two digits", Checks.written(x, x.writeQueue(1)),
                "4.b=40 5.b=50 6.b=60 7.b=70 8.b=80 9.b=90 10.b=100 11.b=110 12.b=120 13.abcdefg=1");
    }

    private static void stacks() {
        FadingSignals x = Checks.loaded("hall 4 0 50 12;kind a 10 0 200;kind bb 20 0 200;kind ccc 30 0 200;program p"
                + ";program q;handle p a 12;handle p bb 11;handle p ccc 20;send p a 1");
        x.tick(1);
        Checks.due("promise 36: one", Checks.written(x, x.writeStack(0)), "a:11");
        x.send(0, 1, 1);
        x.tick(2);
        x.send(0, 2, 1);
        x.tick(1);
        Checks.due("promise 36: the top first", Checks.written(x, x.writeStack(0)), "ccc:19>bb:9>a:11");
        Checks.due("promise 36: the length", x.writeStack(0), 16);
        Checks.due("promise 36: an empty stack", x.writeStack(1), 0);
        Checks.index("promise 36: below", () -> x.writeStack(-1));
        Checks.index("promise 36: above", () -> x.writeStack(2));
    }

    private static void ends() {
        FadingSignals x = Checks.loaded("hall 1 0 50 2;kind a 10 10 200;kind b 9 0 3;kind c 8 0 200;kind d 7 0 200"
                + ";program p;program q;handle p a 1;hide p b;hide q a;hide q b");
        Checks.due("promise 37: none", x.writeEnds(), 0);
        x.send(0, 0, 1);
        x.send(0, 1, 1);
        x.tick(1);
        x.send(0, 0, 1);
        x.tick(1);
        x.send(0, 2, 1);
        x.tick(1);
        x.send(1, 0, 1);
        x.send(1, 0, 1);
        x.send(1, 0, 1);
        x.drop(4);
        Checks.due("promise 37: every letter", Checks.written(x, x.writeEnds()), "4d 6q 3n 1a 2f 0h");
        Checks.due("promise 37: the length", x.writeEnds(), 17);
    }

    private static void manyEnds() {
        FadingSignals x = Checks.loaded("hall 1 0 50 12;kind a 10 10 200;program p");
        for (int i = 0; i < 45; i++) {
            x.send(0, 0, i);
            x.drop(i);
        }
        StringBuilder want = new StringBuilder("44d");
        for (int i = 43; i >= 5; i--) {
            want.append(' ').append(i).append('d');
        }
        Checks.due("promise 37: the latest forty alone", Checks.written(x, x.writeEnds()), want.toString());
    }

    private static void longNumbers() {
        FadingSignals x = TextBounds.manySent();
        Checks.due("signals sent in 9999 ticks", x.count(4), 6 + 24 * 9999);
        Checks.due("promise 37: the longest text", x.writeEnds(), 40 * 8 - 1);
        String ends = Checks.written(x, 319);
        Checks.due("promise 37: its first end", ends.substring(0, 7), (6 + 24 * 9999 - 1) + "q");
        Checks.due("promise 37: its last end", ends.substring(312), x.end(39, 0) + "" + "hfaqnd".charAt(x.end(39, 1)));
        FadingSignals y = TextBounds.manySent();
        String queue = Checks.written(y, y.writeQueue(5));
        Checks.due("promise 35: twelve signals", queue.split(" ").length, 12);
        Checks.due("promise 35: the first of them", queue.split(" ")[0], y.queue(5, 0, 0) + ".abcdefg=999");
        Checks.due("promise 35: the last of them", queue.split(" ")[11], y.queue(5, 11, 0) + ".abcdefg=999");
    }

    private static void bytes() {
        FadingSignals x = Checks.loaded("hall 1 0 50 12;kind a 10 0 200;program p;send p a 35");
        Checks.index("promise 38: before the first text", () -> x.textByte(0));
        x.writeQueue(0);
        int[] want = {'0', '.', 'a', '=', '3', '5'};
        for (int i = 0; i < want.length; i++) {
            Checks.due("promise 38: byte " + i, x.textByte(i), want[i]);
        }
        Checks.index("promise 38: below", () -> x.textByte(-1));
        Checks.index("promise 38: behind the text", () -> x.textByte(6));
        Checks.index("promise 38: far behind", () -> x.textByte(Integer.MAX_VALUE));
    }

    private static void staying() {
        String text = "hall 1 0 50 12;kind a 10 0 200;program p;send p a 35";
        FadingSignals x = Checks.loaded(text);
        x.save(0);
        x.tick(1);
        x.writeEnds();
        Checks.due("promise 38: the text", Checks.written(x, 2), "0n");
        x.undo();
        Checks.due("promise 38: stays behind undo", Checks.written(x, 2), "0n");
        x.restore(0);
        Checks.due("promise 38: stays behind restore", Checks.written(x, 2), "0n");
        Checks.load(x, text);
        Checks.due("promise 38: stays behind load", Checks.written(x, 2), "0n");
        Checks.index("promise 35: an exception", () -> x.writeQueue(7));
        Checks.index("promise 36: an exception", () -> x.writeStack(7));
        Checks.due("promise 38: stays behind an exception", Checks.written(x, 2), "0n");
        Checks.due("promise 36: an empty text", x.writeStack(0), 0);
        Checks.index("promise 38: an empty text replaces it", () -> x.textByte(0));
    }
}
