import java.nio.charset.StandardCharsets;

/** Runs of calls, drawn by a generator of its own, on the program and on the Model: all answers must be the same. */
public final class ModelTest {
    private static long seed = 20260101L;

    private static int draw(int bound) {
        seed = seed * 6364136223846793005L + 1442695040888963407L;
        return (int) ((seed >>> 33) % bound);
    }

    private static boolean chance(int percent) {
        return draw(100) < percent;
    }

    public static void main(String[] args) {
        int runs = args.length > 0 ? Integer.parseInt(args[0]) : 8000;
        for (int run = 0; run < runs; run++) {
            oneRun(run);
        }
        for (int i = 0; i < runs; i++) {
            oneBrokenText(i);
        }
        Checks.close("ModelTest");
    }

    private static int kinds;
    private static int programs;
    private static FadingSignals x;
    private static Model m;
    private static String label;
    /** The calls that are left to the object: it has but 512. */
    private static int left;
    /** How many of a hundred calls are made. */
    private static int share;

    private static void fresh(String name) {
        x = new FadingSignals();
        m = new Model();
        label = name;
        left = 512;
        share = 100;
    }

    private static void oneRun(int run) {
        fresh("run " + run);
        if (chance(10)) {
            oneCall();
            oneCall();
        }
        load(drawText());
        wholeHandlers(60);
        for (int call = 0; call < 500 && left > 100; call++) {
            label = "run " + run + " call " + call;
            oneCall();
        }
        whole(100);
    }

    private static void oneBrokenText(int i) {
        fresh("broken text " + i);
        StringBuilder text = new StringBuilder(drawText());
        int breaks = 1 + draw(2);
        for (int b = 0; b < breaks; b++) {
            breakText(text);
        }
        load(text.toString());
        if (m.state != null) {
            whole(200);
            wholeHandlers(200);
        }
    }

    private static void breakText(StringBuilder text) {
        String signs = "abkp059; ;  A#\u00e9kind raise hide send p a 1000 200";
        int at = draw(text.length());
        switch (draw(4)) {
            case 0:
                text.setCharAt(at, signs.charAt(draw(signs.length())));
                break;
            case 1:
                text.insert(at, signs.charAt(draw(signs.length())));
                break;
            case 2:
                text.deleteCharAt(at);
                break;
            default:
                text.setLength(Math.max(1, at));
                break;
        }
    }

    private static final String[] NAMES = {"a", "kind", "raise", "mask", "zzzzzzz", "bb", "drop", "cx", "send"};

    private static String kindName(int k) {
        return NAMES[k];
    }

    private static String programName(int p) {
        return NAMES[NAMES.length - 1 - p];
    }

    private static String drawText() {
        kinds = chance(4) ? 0 : 1 + draw(chance(70) ? 4 : 8);
        programs = chance(4) ? 0 : 1 + draw(chance(70) ? 3 : 6);
        StringBuilder text = new StringBuilder("hall " + (1 + draw(4)) + " " + draw(chance(50) ? 6 : 51) + " "
                + (1 + draw(chance(50) ? 5 : 50)) + " " + (1 + draw(12)));
        for (int k = 0; k < kinds; k++) {
            text.append(";kind ").append(kindName(k)).append(' ').append(1 + draw(chance(30) ? 10 : 99)).append(' ')
                    .append(draw(21)).append(' ').append(1 + draw(chance(50) ? 12 : 200));
        }
        for (int p = 0; p < programs; p++) {
            text.append(";program ").append(programName(p));
        }
        if (kinds == 0 || programs == 0) {
            return text.toString();
        }
        boolean[] has = new boolean[64];
        for (int i = draw(2 * kinds * programs + 1); i > 0 && text.length() < 500; i--) {
            int handler = draw(kinds * programs);
            if (!has[handler]) {
                has[handler] = true;
                drawHandler(text, handler % programs, handler / programs);
            }
        }
        for (int i = draw(3); i > 0; i--) {
            int k = draw(kinds);
            int p = draw(programs);
            if (text.indexOf("hide " + programName(p) + " " + kindName(k) + " ") < 0) {
                text.append(";hide ").append(programName(p)).append(' ').append(kindName(k)).append(' ');
            }
        }
        for (int i = draw(13); i > 0 && text.length() < 675; i--) {
            text.append(";send ").append(programName(draw(programs))).append(' ').append(kindName(draw(kinds)))
                    .append(' ').append(draw(1000));
        }
        return text.toString();
    }

    private static void drawHandler(StringBuilder text, int p, int k) {
        text.append(";handle ").append(programName(p)).append(' ').append(kindName(k)).append(' ')
                .append(1 + draw(chance(60) ? 3 : 20));
        String[] types = {"raise", "raise", "raise", "mask", "unmask", "drop"};
        for (int acts = draw(5); acts > 0; acts--) {
            String type = types[draw(types.length)];
            text.append(' ').append(type).append(' ').append(kindName(draw(kinds)));
            if (type.equals("raise")) {
                text.append(' ').append(programName(draw(programs))).append(' ').append(draw(1000));
            }
        }
    }

    private static void load(String text) {
        byte[] bytes = text.getBytes(StandardCharsets.ISO_8859_1);
        for (int at = 0; at < bytes.length; at += 20) {
            int[] w = new int[5];
            for (int i = 0; i < 20; i++) {
                w[i / 4] = w[i / 4] << 8 | (at + i < bytes.length ? bytes[at + i] & 255 : 32);
            }
            same("append", () -> x.append(w[0], w[1], w[2], w[3], w[4]), () -> m.append(w[0], w[1], w[2], w[3], w[4]));
        }
        same("load " + text, () -> x.load(bytes.length), () -> m.load(bytes.length));
        same("parseError " + text, () -> x.parseError(), () -> m.parseCode);
        same("errorPosition " + text, () -> x.errorPosition(), () -> m.parsePosition);
    }

    private static void same(String call, Checks.Call program, Checks.Call model) {
        if (left == 0 || share < 100 && !chance(share)) {
            return;
        }
        left--;
        Checks.due(label + ": " + call, Checks.outcome(program), Checks.outcome(model));
    }

    private static int drawIndex(int size) {
        if (chance(4)) {
            return new int[] {-1, size, Integer.MAX_VALUE, Integer.MIN_VALUE, 64}[draw(5)];
        }
        return size > 0 ? draw(size) : 0;
    }

    private static int drawIn(int low, int high) {
        if (chance(5)) {
            return new int[] {low - 1, high + 1, Integer.MAX_VALUE, Integer.MIN_VALUE}[draw(4)];
        }
        return chance(10) ? low : chance(10) ? high : low + draw(high - low + 1);
    }

    private static int drawSignal() {
        int sent = m.state == null ? 0 : m.state.signals.size();
        return chance(70) ? drawIndex(sent) : sent - 1 - drawIndex(Math.min(sent, 10));
    }

    private static void oneCall() {
        if (chance(45)) {
            oneChange();
        } else {
            oneLook();
        }
        if (chance(8)) {
            whole(30);
        }
    }

    private static void oneChange() {
        int p = drawIndex(programs);
        int k = drawIndex(kinds);
        int v = drawIn(0, 999);
        int t = chance(85) ? drawIn(1, 5) : drawIn(1, chance(50) ? 40 : 200);
        int s = drawSignal();
        int what = drawIn(0, 2);
        int value = drawIn(0, chance(50) ? 5 : 200);
        boolean is = chance(50);
        switch (draw(24)) {
            case 0: case 1: case 2: case 3: case 4: case 5: case 6:
                same("send " + p + " " + k + " " + v, () -> x.send(p, k, v), () -> m.send(p, k, v));
                break;
            case 7: case 8: case 9: case 10: case 11: case 12: case 13:
                same("tick " + t, () -> x.tick(t), () -> m.tick(t));
                break;
            case 14: case 15:
                same("mask " + p + " " + k + " " + is, () -> x.mask(p, k, is), () -> m.mask(p, k, is));
                break;
            case 16:
                same("drop " + s, () -> x.drop(s), () -> m.drop(s));
                break;
            case 17:
                same("clear " + p, () -> x.clear(p), () -> m.clear(p));
                break;
            case 18:
                same("refresh " + p, () -> x.refresh(p), () -> m.refresh(p));
                break;
            case 19:
                same("setKind " + k + " " + what + " " + value, () -> x.setKind(k, what, value),
                        () -> m.setKind(k, what, value));
                break;
            case 20:
                same("set " + what + " " + value, () -> x.set(what, value), () -> m.set(what, value));
                break;
            default:
                goBack();
                break;
        }
    }

    private static void goBack() {
        int slot = drawIndex(2);
        int times = chance(20) ? 9 : 1 + draw(2);
        switch (draw(5)) {
            case 0:
                same("save " + slot, () -> x.save(slot), () -> m.save(slot));
                break;
            case 1:
                same("restore " + slot, () -> x.restore(slot), () -> m.restore(slot));
                break;
            default:
                for (int i = 0; i < times; i++) {
                    same("undo", () -> x.undo(), () -> m.undo());
                }
                break;
        }
        same("undoable", () -> x.undoable(), () -> m.past.size());
    }

    private static void oneLook() {
        int p = drawIndex(programs);
        int k = drawIndex(kinds);
        int s = drawSignal();
        int t = drawIn(0, chance(80) ? 20 : 200);
        int end = drawIn(0, 5);
        int i = drawIndex(50);
        switch (draw(12)) {
            case 0:
                same("idleIn " + p, () -> x.idleIn(p), () -> m.idleIn(p));
                break;
            case 1:
                same("calmIn", () -> x.calmIn(), () -> m.calmIn());
                break;
            case 2:
                same("endIn " + s, () -> x.endIn(s), () -> m.endIn(s));
                break;
            case 3:
                same("endOf " + s, () -> x.endOf(s), () -> m.endOf(s));
                break;
            case 4:
                same("endsIn " + end + " " + t, () -> x.endsIn(end, t), () -> m.endsIn(end, t));
                break;
            case 5:
                same("urgencyIn " + p + " " + k + " " + t, () -> x.urgencyIn(p, k, t), () -> m.urgencyIn(p, k, t));
                break;
            case 6:
                same("sentIn " + t, () -> x.sentIn(t), () -> m.sentIn(t));
                break;
            case 7:
                same("bestMask " + p, () -> x.bestMask(p), () -> m.bestMask(p));
                break;
            case 8:
                same("loser " + p + " " + k, () -> x.loser(p, k), () -> m.loser(p, k));
                break;
            case 9:
                same("whereIs " + s, () -> x.whereIs(s), () -> m.whereIs(s));
                break;
            case 10:
                texts(p, i);
                break;
            default:
                input(k, i);
                break;
        }
    }

    private static void texts(int p, int i) {
        switch (draw(3)) {
            case 0:
                same("writeQueue " + p, () -> x.writeQueue(p), () -> m.writeQueue(p));
                break;
            case 1:
                same("writeStack " + p, () -> x.writeStack(p), () -> m.writeStack(p));
                break;
            default:
                same("writeEnds", () -> x.writeEnds(), () -> m.writeEnds());
                break;
        }
        same("textByte " + i, () -> x.textByte(i), () -> m.textByte(i));
        share = Math.min(100, 3000 / (m.text.length() + 1));
        for (int at = 0; at <= m.text.length(); at++) {
            int index = at;
            same("textByte " + at, () -> x.textByte(index), () -> m.textByte(index));
        }
        share = 100;
    }

    private static void input(int k, int i) {
        boolean kind = chance(50);
        String name = chance(80) ? NAMES[draw(NAMES.length)] : "nobody";
        int word = name.length() < 4 ? 0 : 0x20202020;
        byte[] bytes = (name + "                    ").getBytes(StandardCharsets.ISO_8859_1);
        int[] w = new int[5];
        for (int b = 0; b < 20; b++) {
            w[b / 4] = w[b / 4] << 8 | bytes[b];
        }
        int n = chance(80) ? name.length() : i;
        same("append", () -> x.append(w[0], w[1], w[2], w[3], word), () -> m.append(w[0], w[1], w[2], w[3], word));
        same("find " + kind + " " + name + " " + n, () -> x.find(kind, n), () -> m.find(kind, n));
        same("buffered", () -> x.buffered(), () -> m.buffer.length());
        if (chance(4)) {
            same("load", () -> x.load(k), () -> m.load(k));
        }
        if (chance(1)) {
            load(drawText());
        }
    }

    /** Compares what is told of the hall: so many calls or about, drawn from all that could be asked. */
    private static void whole(int calls) {
        share = Math.min(100, Math.max(1, 100 * calls / (300 + 7 * kinds + 200 * programs)));
        for (int w = -1; w <= 14; w++) {
            int what = w;
            same("count " + w, () -> x.count(what), () -> m.count(what));
            same("setting " + w, () -> x.setting(what), () -> m.setting(what));
        }
        same("busiest", () -> x.busiest(), () -> m.busiest());
        same("oldest", () -> x.oldest(), () -> m.oldest());
        same("meanWait", () -> x.meanWait(), () -> m.meanWait());
        same("handledShare", () -> x.handledShare(), () -> m.handledShare());
        for (int i = -1; i <= 40; i++) {
            for (int w = -1; w <= 5; w++) {
                int index = i;
                int what = w;
                same("end " + i + " " + w, () -> x.end(index, what), () -> m.end(index, what));
            }
        }
        for (int i = -1; i <= kinds; i++) {
            int k = i;
            for (int w = -1; w <= 3; w++) {
                int what = w;
                same("kind " + k + " " + w, () -> x.kind(k, what), () -> m.kind(k, what));
            }
            same("raisers " + k, () -> x.raisers(k), () -> m.raisers(k));
        }
        for (int p = -1; p <= programs; p++) {
            wholeProgram(p);
        }
        share = 100;
    }

    private static void wholeHandlers(int calls) {
        share = Math.min(100, Math.max(1, 100 * calls / (52 * (kinds + 2) * (programs + 2))));
        for (int i = -1; i <= programs; i++) {
            int p = i;
            for (int j = -1; j <= kinds; j++) {
                int k = j;
                for (int w = -1; w <= 50; w++) {
                    int what = w;
                    same("handler " + p + " " + k + " " + w, () -> x.handler(p, k, what), () -> m.handler(p, k, what));
                }
            }
        }
        share = 100;
    }

    private static void wholeProgram(int p) {
        same("next " + p, () -> x.next(p), () -> m.next(p));
        same("tiredest " + p, () -> x.tiredest(p), () -> m.tiredest(p));
        for (int w = -1; w <= 8; w++) {
            int what = w;
            same("program " + p + " " + w, () -> x.program(p, what), () -> m.program(p, what));
        }
        for (int i = -1; i <= kinds; i++) {
            int k = i;
            same("urgency " + p + " " + k, () -> x.urgency(p, k), () -> m.urgency(p, k));
            same("tiredness " + p + " " + k, () -> x.tiredness(p, k), () -> m.tiredness(p, k));
        }
        for (int i = -1; i <= 13; i++) {
            int index = i;
            for (int w = -1; w <= 5; w++) {
                int what = w;
                same("queue " + p + " " + i + " " + w, () -> x.queue(p, index, what), () -> m.queue(p, index, what));
                same("running " + p + " " + i + " " + w, () -> x.running(p, index, what),
                        () -> m.running(p, index, what));
            }
        }
    }
}
