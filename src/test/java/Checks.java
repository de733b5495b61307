import java.nio.charset.StandardCharsets;

/** What the tests share: comparing answers, naming exceptions, and filling the input buffer with a text. */
final class Checks {
    interface Call {
        Object answer();
    }

    private static int wrong = 0;
    private static int made = 0;

    private Checks() {
    }

    static void due(String what, Object got, Object want) {
        made++;
        if (!got.equals(want)) {
            wrong++;
            System.out.println(what + " answered " + got + ", due is " + want);
        }
    }

    /** Compares what a call answers, or the name of the exception that it throws. */
    static void answers(String what, Object want, Call call) {
        due(what, outcome(call), want);
    }

    static void state(String what, Call call) {
        answers(what, "IllegalStateException", call);
    }

    static void index(String what, Call call) {
        answers(what, "IndexOutOfBoundsException", call);
    }

    static void argument(String what, Call call) {
        answers(what, "IllegalArgumentException", call);
    }

    static Object outcome(Call call) {
        try {
            return call.answer();
        } catch (RuntimeException e) {
            return e.getClass().getSimpleName();
        }
    }

    /** Ends the program: with the exit code 1 if an answer was not the one that is due. */
    static void close(String name) {
        System.out.println(name + ": " + made + " answers looked at, " + wrong + " not as due");
        if (wrong > 0 || made == 0) {
            System.exit(1);
        }
    }

    /** Appends a text; the last twenty bytes are filled up with blanks. */
    static void append(FadingSignals x, String text) {
        byte[] bytes = text.getBytes(StandardCharsets.ISO_8859_1);
        for (int at = 0; at < bytes.length; at += 20) {
            x.append(word(bytes, at), word(bytes, at + 4), word(bytes, at + 8), word(bytes, at + 12),
                    word(bytes, at + 16));
        }
    }

    private static int word(byte[] bytes, int from) {
        int word = 0;
        for (int i = from; i < from + 4; i++) {
            word = word << 8 | (i < bytes.length ? bytes[i] & 255 : 32);
        }
        return word;
    }

    static int load(FadingSignals x, String text) {
        append(x, text);
        return x.load(text.length());
    }

    static FadingSignals loaded(String text) {
        FadingSignals x = new FadingSignals();
        load(x, text);
        return x;
    }

    static int find(FadingSignals x, boolean kind, String name) {
        append(x, name);
        return x.find(kind, name.length());
    }

    static String written(FadingSignals x, int length) {
        StringBuilder text = new StringBuilder();
        for (int i = 0; i < length; i++) {
            text.append((char) x.textByte(i));
        }
        return text.toString();
    }

    /** All that is told of a hall, in one text. */
    static String told(FadingSignals x) {
        StringBuilder all = new StringBuilder();
        for (int what = 0; what < 14; what++) {
            all.append(x.count(what)).append(' ');
        }
        for (int what = 0; what < 4; what++) {
            all.append(x.setting(what)).append(' ');
        }
        for (int k = 0; k < x.count(0); k++) {
            all.append(x.kind(k, 0)).append(' ').append(x.kind(k, 1)).append(' ').append(x.kind(k, 2)).append(' ');
        }
        for (int p = 0; p < x.count(1); p++) {
            for (int what = 0; what < 8; what++) {
                all.append(x.program(p, what)).append(' ');
            }
            for (int k = 0; k < x.count(0); k++) {
                all.append(x.tiredness(p, k)).append(' ');
                for (int what = 0; what < 50; what++) {
                    all.append(x.handler(p, k, what)).append(' ');
                }
            }
            for (int i = 0; i < x.program(p, 0); i++) {
                for (int what = 0; what < 5; what++) {
                    all.append(x.queue(p, i, what)).append(' ');
                }
            }
            for (int i = 0; i < x.program(p, 1); i++) {
                for (int what = 0; what < 5; what++) {
                    all.append(x.running(p, i, what)).append(' ');
                }
            }
        }
        for (int i = 0; i < x.count(13); i++) {
            for (int what = 0; what < 5; what++) {
                all.append(x.end(i, what)).append(' ');
            }
        }
        return all.append(x.meanWait()).append(' ').append(x.handledShare()).toString();
    }
}
