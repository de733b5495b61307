/** Loads a hall, asks it, changes it, goes back, and loads a text that has an error. */
public final class Example {
    private static final String TEXT = "hall 2 5 10 3; kind tea 50 4 30; kind bell 80 2 5;"
            + " program cook; program waiter; handle cook tea 3 raise bell waiter 1;"
            + " handle waiter bell 2; send cook tea 7";

    public static void main(String[] args) {
        FadingSignals hall = new FadingSignals();
        append(hall, TEXT);
        System.out.println("programs: " + hall.load(TEXT.length()));
        int cook = find(hall, false, "cook");
        int waiter = find(hall, false, "waiter");
        int tea = find(hall, true, "tea");

        System.out.println("queue of the cook: " + text(hall, hall.writeQueue(cook)));
        System.out.println("signal 0 has its end in " + hall.endIn(0) + " ticks, all is calm in " + hall.calmIn());

        System.out.println("saved at the time " + hall.save(0));
        System.out.println("sent signal " + hall.send(cook, tea, 999));
        System.out.println("ends within 3 ticks: " + hall.tick(3));
        System.out.println("urgency of tea for the cook: " + hall.urgency(cook, tea));
        System.out.println("stack of the waiter: " + text(hall, hall.writeStack(waiter)));
        System.out.println("ends within 4 ticks more: " + hall.tick(4));
        System.out.println("ends: " + text(hall, hall.writeEnds()) + ", mean wait: " + hall.meanWait());

        System.out.println("undone, can still be undone: " + hall.undo() + ", time: " + hall.count(3));
        System.out.println("restored, time: " + hall.restore(0) + ", can be undone: " + hall.undoable());

        String wrong = "hall 2 5 10 3; kind tea 100 4 30";
        append(hall, wrong);
        try {
            hall.load(wrong.length());
        } catch (IllegalArgumentException e) {
            System.out.println("error " + hall.parseError() + " at byte " + hall.errorPosition());
        }
        System.out.println("the hall before it stays, programs: " + hall.count(1));
    }

    /** Appends a text, twenty bytes a call; blanks fill up the last twenty. */
    private static void append(FadingSignals hall, String text) {
        for (int at = 0; at < text.length(); at += 20) {
            hall.append(word(text, at), word(text, at + 4), word(text, at + 8), word(text, at + 12),
                    word(text, at + 16));
        }
    }

    private static int word(String text, int from) {
        int word = 0;
        for (int i = from; i < from + 4; i++) {
            word = word << 8 | (i < text.length() ? text.charAt(i) : ' ');
        }
        return word;
    }

    private static int find(FadingSignals hall, boolean kind, String name) {
        append(hall, name);
        return hall.find(kind, name.length());
    }

    /** Reads the text that was written last. */
    private static String text(FadingSignals hall, int length) {
        StringBuilder text = new StringBuilder();
        for (int i = 0; i < length; i++) {
            text.append((char) hall.textByte(i));
        }
        return text.toString();
    }
}
