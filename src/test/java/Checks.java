import java.nio.charset.StandardCharsets;

/** What the tests share: comparing answers, naming exceptions, and filling the input buffer with a text. */
final class Checks {
    interface Call {
        Object answer();
    }

    private static int wrong = 0;
    private static int made = 0;
    private static String about = "";

    private Checks() {
    }

    static void due(String what, Object got, Object want) {
        made++;
        if (!got.equals(want)) {
            wrong++;
            System.out.println(about + what + " answered " + got + ", due is " + want);
        }
    }

    /** Tells what the next answers are about; it stands ahead of each that is not as due. */
    static void about(String subject) {
        about = subject;
    }

    static int made() {
        return made;
    }

    /** Compares what a call answers, or the name of the exception that it throws. */
    static void answers(String what, Object want, Call call) {
        due(what, outcome(call), want);
    }

    static void state(String what, Call call) {
        answers(what, "IllegalStateException", call);
    }

    static void index(String what, Call call) {
        answers(what, "IndexOutOfBoundsException", call);
    }

    static void argument(String what, Call call) {
        answers(what, "IllegalArgumentException", call);
    }

    static Object outcome(Call call) {
        try {
            return call.answer();
        } catch (RuntimeException e) {
            return e.getClass().getSimpleName();
        }
    }

    /** Ends the program: with the exit code 1 if an answer was not the one that is due. */
    static void close(String name) {
        System.out.println(name + ": " + made + " answers looked at, " + wrong + " not as due");
        if (wrong > 0 || made == 0) {
            System.exit(1);
        }
    }

    /** Appends a text; the last twenty bytes are filled up with blanks. */
    static void append(FadingSignals x, String text) {
        byte[] bytes = text.getBytes(StandardCharsets.ISO_8859_1);
        for (int at = 0; at < bytes.length; at += 20) {
            x.append(word(bytes, at), word(bytes, at + 4), word(bytes, at + 8), word(bytes, at + 12),
                    word(bytes, at + 16));
        }
    }

    private static int word(byte[] bytes, int from) {
        int word = 0;
        for (int i = from; i < from + 4; i++) {
            word = word << 8 | (i < bytes.length ? bytes[i] & 255 : 32);
        }
        return word;
    }

    static int load(FadingSignals x, String text) {
        append(x, text);
        return x.load(text.length());
    }

    static FadingSignals loaded(String text) {
        FadingSignals x = new FadingSignals();
        load(x, text);
        return x;
    }

    static int find(FadingSignals x, boolean kind, String name) {
        append(x, name);
        return x.find(kind, name.length());
    }

    static String written(FadingSignals x, int length) {
        StringBuilder text = new StringBuilder();
        for (int i = 0; i < length; i++) {
            text.append((char) x.textByte(i));
        }
        return text.toString();
    }

    /** The numbers of the signals of a queue, in the order. */
    static String queue(FadingSignals x, int program) {
        StringBuilder numbers = new StringBuilder();
        for (int i = 0; i < x.program(program, 0); i++) {
            numbers.append(i > 0 ? " " : "").append(x.queue(program, i, 0));
        }
        return numbers.toString();
    }

    /** The ends that can be told, the latest first: the number of the signal, a colon and the end. */
    static String ends(FadingSignals x) {
        StringBuilder ends = new StringBuilder();
        for (int i = 0; i < x.count(13); i++) {
            ends.append(i > 0 ? " " : "").append(x.end(i, 0)).append(':').append(x.end(i, 1));
        }
        return ends.toString();
    }

    /** A text must have an error: its code, a blank and its position. */
    static void textError(String text, String want) {
        FadingSignals x = new FadingSignals();
        argument(text, () -> load(x, text));
        due(text + ": the error", x.parseError() + " " + x.errorPosition(), want);
    }

    /** A text must have no error. */
    static void textFine(String text) {
        FadingSignals x = new FadingSignals();
        Object got = outcome(() -> load(x, text));
        due(text + " answered " + got + ", the error", x.parseError() + " " + x.errorPosition(), "0 -1");
        due(text + " answered " + got, got instanceof Integer, true);
    }

    private interface Number {
        int of(int index);
    }

    private static void numbers(StringBuilder all, int size, Number number) {
        for (int i = 0; i < size; i++) {
            all.append(number.of(i)).append(' ');
        }
        all.append("; ");
    }

    /** What is told of a hall, in one text; some two hundred calls, as an object has but 512. */
    static String told(FadingSignals x) {
        StringBuilder all = new StringBuilder();
        numbers(all, 14, what -> x.count(what));
        numbers(all, 4, what -> x.setting(what));
        int kinds = x.count(0);
        for (int kind = 0; kind < kinds; kind++) {
            int k = kind;
            numbers(all, 3, what -> x.kind(k, what));
        }
        int programs = x.count(1);
        for (int program = 0; program < programs; program++) {
            int p = program;
            numbers(all, 8, what -> x.program(p, what));
            numbers(all, kinds, k -> x.tiredness(p, k));
            numbers(all, kinds, k -> x.handler(p, k, 0));
            numbers(all, 5 * x.program(p, 0), i -> x.queue(p, i / 5, i % 5));
            numbers(all, 5 * x.program(p, 1), i -> x.running(p, i / 5, i % 5));
        }
        int ends = x.count(13);
        numbers(all, 5 * Math.min(5, ends), i -> x.end(i / 5, i % 5));
        numbers(all, 2 * ends, i -> x.end(i / 2, i % 2));
        return all.append(x.meanWait()).append(' ').append(x.handledShare()).toString();
    }
}
