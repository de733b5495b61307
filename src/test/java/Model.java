import java.util.ArrayList;
import java.util.Comparator;
import java.util.LinkedHashMap;
import java.util.List;
import java.util.Map;
import java.util.TreeMap;

/**
 * The document once more, written as plainly as can be and without regard to what it costs: every signal is kept
 * as an object for ever, every look sorts, every change copies all. The program is compared with it.
 */
final class Model {
    static final class Signal {
        int number;
        int kind;
        int to;
        int from;
        int value;
        int sentAt;
        boolean running;
        int level;
        int left;
        int end = -1;
        int endTime;

        Signal copy() {
            Signal s = new Signal();
            s.number = number;
            s.kind = kind;
            s.to = to;
            s.from = from;
            s.value = value;
            s.sentAt = sentAt;
            s.running = running;
            s.level = level;
            s.left = left;
            s.end = end;
            s.endTime = endTime;
            return s;
        }

        boolean queued() {
            return end < 0 && !running;
        }
    }

    static final class Handler {
        int ticks;
        final List<int[]> acts = new ArrayList<>();
    }

    static final class State {
        int depth;
        int nest;
        int rest;
        int cap;
        final List<String> kindNames = new ArrayList<>();
        final List<int[]> kinds = new ArrayList<>();
        final List<String> programs = new ArrayList<>();
        final Map<String, Handler> handlers = new LinkedHashMap<>();
        final Map<String, Integer> tired = new TreeMap<>();
        final List<List<Boolean>> masked = new ArrayList<>();
        final List<Signal> signals = new ArrayList<>();
        final List<List<Signal>> stacks = new ArrayList<>();
        final List<Signal> ends = new ArrayList<>();
        int time;

        State copy() {
            State s = new State();
            s.depth = depth;
            s.nest = nest;
            s.rest = rest;
            s.cap = cap;
            s.kindNames.addAll(kindNames);
            for (int[] kind : kinds) {
                s.kinds.add(kind.clone());
            }
            s.programs.addAll(programs);
            s.handlers.putAll(handlers);
            s.tired.putAll(tired);
            for (List<Boolean> mask : masked) {
                s.masked.add(new ArrayList<>(mask));
            }
            for (Signal signal : signals) {
                s.signals.add(signal.copy());
            }
            for (List<Signal> stack : stacks) {
                List<Signal> copied = new ArrayList<>();
                for (Signal signal : stack) {
                    copied.add(s.signals.get(signal.number));
                }
                s.stacks.add(copied);
            }
            for (Signal signal : ends) {
                s.ends.add(s.signals.get(signal.number));
            }
            s.time = time;
            return s;
        }

        int tiredness(int p, int k) {
            return tired.getOrDefault(p + "," + k, 0);
        }

        int urgency(int p, int k) {
            return Math.max(0, kinds.get(k)[0] - tiredness(p, k));
        }

        boolean isMasked(int p, int k) {
            return k < masked.get(p).size() && masked.get(p).get(k);
        }

        void putMask(int p, int k, boolean is) {
            while (masked.get(p).size() <= k) {
                masked.get(p).add(false);
            }
            masked.get(p).set(k, is);
        }

        List<Signal> byNumbers(int p) {
            List<Signal> found = new ArrayList<>();
            for (Signal s : signals) {
                if (s.to == p && s.queued()) {
                    found.add(s);
                }
            }
            return found;
        }

        List<Signal> order(int p) {
            List<Signal> found = byNumbers(p);
            found.sort(Comparator.<Signal>comparingInt(s -> -urgency(p, s.kind)).thenComparingInt(s -> s.number));
            return found;
        }

        Signal first(int p) {
            for (Signal s : order(p)) {
                if (!isMasked(p, s.kind)) {
                    return s;
                }
            }
            return null;
        }

        void giveEnd(Signal s, int end) {
            s.end = end;
            s.endTime = time;
            s.running = false;
            ends.add(0, s);
        }

        int put(int p, int k, int from, int value) {
            Signal s = new Signal();
            s.number = signals.size();
            s.kind = k;
            s.to = p;
            s.from = from;
            s.value = value;
            s.sentAt = time;
            signals.add(s);
            List<Signal> order = order(p);
            if (order.size() > cap) {
                giveEnd(order.get(order.size() - 1), 3);
            }
            return s.number;
        }

        void pass() {
            time++;
            if (time % rest == 0) {
                tired.replaceAll((key, value) -> Math.max(0, value - 1));
            }
            for (int p = 0; p < programs.size(); p++) {
                for (Signal s : byNumbers(p)) {
                    if (s.sentAt <= time - kinds.get(s.kind)[2]) {
                        giveEnd(s, 2);
                    }
                }
                look(p);
                work(p);
            }
        }

        private void look(int p) {
            List<Signal> stack = stacks.get(p);
            while (true) {
                Signal s = first(p);
                if (s == null) {
                    return;
                }
                int urgency = urgency(p, s.kind);
                boolean free = stack.isEmpty()
                        || urgency > stack.get(0).level + nest && stack.size() < depth;
                if (!free) {
                    return;
                }
                Handler handler = handlers.get(p + "," + s.kind);
                if (urgency == 0) {
                    giveEnd(s, 1);
                } else if (handler == null) {
                    giveEnd(s, 4);
                } else {
                    s.running = true;
                    s.level = urgency;
                    s.left = handler.ticks;
                    stack.add(0, s);
                    return;
                }
            }
        }

        private void work(int p) {
            List<Signal> stack = stacks.get(p);
            if (stack.isEmpty()) {
                return;
            }
            Signal s = stack.get(0);
            s.left--;
            if (s.left > 0) {
                return;
            }
            stack.remove(0);
            tired.put(p + "," + s.kind, Math.min(99, tiredness(p, s.kind) + kinds.get(s.kind)[1]));
            giveEnd(s, 0);
            for (int[] act : handlers.get(p + "," + s.kind).acts) {
                if (act[0] == 0) {
                    put(act[2], act[1], p, (s.value + act[3]) % 1000);
                } else if (act[0] == 3) {
                    for (Signal other : byNumbers(p)) {
                        if (other.kind == act[1]) {
                            giveEnd(other, 5);
                        }
                    }
                } else {
                    putMask(p, act[1], act[0] == 1);
                }
            }
        }

        boolean idle(int p) {
            return byNumbers(p).isEmpty() && stacks.get(p).isEmpty();
        }

        int countEnds(int end) {
            int n = 0;
            for (Signal s : ends) {
                n += s.end == end ? 1 : 0;
            }
            return n;
        }

        int lostAt(int p) {
            int n = 0;
            for (Signal s : ends) {
                n += s.to == p && s.end != 0 ? 1 : 0;
            }
            return n;
        }

        int told() {
            return Math.min(40, ends.size());
        }
    }

    StringBuilder buffer = new StringBuilder();
    int parseCode = 0;
    int parsePosition = -1;
    State state;
    final List<State> past = new ArrayList<>();
    final State[] slots = new State[2];
    String text = "";

    private static IllegalStateException noState() {
        return new IllegalStateException();
    }

    private void needState() {
        if (state == null) {
            throw noState();
        }
    }

    private static void needIndex(int i, int size) {
        if (i < 0 || i >= size) {
            throw new IndexOutOfBoundsException();
        }
    }

    private static void needIn(int value, int low, int high) {
        if (value < low || value > high) {
            throw new IllegalArgumentException();
        }
    }

    private void needProgram(int p) {
        needState();
        needIndex(p, state.programs.size());
    }

    private void needBoth(int p, int k) {
        needProgram(p);
        needIndex(k, state.kinds.size());
    }

    int append(int a, int b, int c, int d, int e) {
        if (buffer.length() + 20 > 700) {
            return -1;
        }
        for (int word : new int[] {a, b, c, d, e}) {
            for (int i = 3; i >= 0; i--) {
                buffer.append((char) (word >>> 8 * i & 255));
            }
        }
        return buffer.length();
    }

    int load(int n) {
        needIndex(n, buffer.length() + 1);
        String parsed = buffer.substring(0, n);
        buffer.setLength(0);
        ModelParser parser = new ModelParser(parsed);
        State read = parser.read();
        parseCode = parser.code;
        parsePosition = parser.position;
        if (read == null) {
            throw new IllegalArgumentException();
        }
        state = read;
        past.clear();
        slots[0] = null;
        slots[1] = null;
        return state.programs.size();
    }

    int find(boolean kind, int n) {
        needState();
        needIndex(n, buffer.length() + 1);
        String name = buffer.substring(0, n);
        buffer.setLength(0);
        return (kind ? state.kindNames : state.programs).indexOf(name);
    }

    int count(int what) {
        needState();
        needIn(what, 0, 13);
        int queued = 0;
        int running = 0;
        for (Signal s : state.signals) {
            queued += s.queued() ? 1 : 0;
            running += s.running ? 1 : 0;
        }
        int[] first = {state.kinds.size(), state.programs.size(), state.handlers.size(), state.time,
            state.signals.size(), queued, running};
        return what < 7 ? first[what] : what == 13 ? state.told() : state.countEnds(what - 7);
    }

    int setting(int what) {
        needState();
        needIn(what, 0, 3);
        return new int[] {state.depth, state.nest, state.rest, state.cap}[what];
    }

    int kind(int k, int what) {
        needState();
        needIndex(k, state.kinds.size());
        needIn(what, 0, 2);
        return state.kinds.get(k)[what];
    }

    int program(int p, int what) {
        needProgram(p);
        needIn(what, 0, 7);
        int mask = 0;
        int handlers = 0;
        for (int k = 0; k < state.kinds.size(); k++) {
            mask += state.isMasked(p, k) ? 1 << k : 0;
            handlers += state.handlers.containsKey(p + "," + k) ? 1 : 0;
        }
        int to = 0;
        int by = 0;
        int handled = 0;
        for (Signal s : state.signals) {
            to += s.to == p ? 1 : 0;
            by += s.from == p ? 1 : 0;
            handled += s.to == p && s.end == 0 ? 1 : 0;
        }
        return new int[] {state.byNumbers(p).size(), state.stacks.get(p).size(), mask, handlers, to, by, handled,
            state.lostAt(p)}[what];
    }

    int handler(int p, int k, int what) {
        needBoth(p, k);
        needIn(what, 0, 49);
        Handler handler = state.handlers.get(p + "," + k);
        if (handler == null) {
            return -1;
        }
        if (what < 10) {
            return what == 0 ? handler.ticks : what == 1 ? handler.acts.size() : -1;
        }
        if (what / 10 > handler.acts.size() || what % 10 > 3) {
            return -1;
        }
        return handler.acts.get(what / 10 - 1)[what % 10];
    }

    int urgency(int p, int k) {
        needBoth(p, k);
        return state.urgency(p, k);
    }

    int tiredness(int p, int k) {
        needBoth(p, k);
        return state.tiredness(p, k);
    }

    int queue(int p, int i, int what) {
        needProgram(p);
        List<Signal> order = state.order(p);
        needIndex(i, order.size());
        needIn(what, 0, 4);
        Signal s = order.get(i);
        return new int[] {s.number, s.kind, s.from, s.value, s.sentAt}[what];
    }

    int running(int p, int i, int what) {
        needProgram(p);
        needIndex(i, state.stacks.get(p).size());
        needIn(what, 0, 4);
        Signal s = state.stacks.get(p).get(i);
        return new int[] {s.number, s.kind, s.level, s.left, s.value}[what];
    }

    int end(int i, int what) {
        needState();
        needIndex(i, state.told());
        needIn(what, 0, 4);
        Signal s = state.ends.get(i);
        return new int[] {s.number, s.end, s.endTime, s.to, s.kind}[what];
    }

    int whereIs(int signal) {
        needState();
        needIndex(signal, state.signals.size());
        Signal s = state.signals.get(signal);
        if (s.queued()) {
            return s.to;
        }
        if (s.running) {
            return 10 + s.to;
        }
        return state.ends.indexOf(s) < 40 ? 20 + s.end : -1;
    }

    int next(int p) {
        needProgram(p);
        Signal s = state.first(p);
        return s == null ? -1 : s.number;
    }

    int busiest() {
        needState();
        int best = -1;
        for (int p = 0; p < state.programs.size(); p++) {
            if (best < 0 || state.byNumbers(p).size() > state.byNumbers(best).size()) {
                best = p;
            }
        }
        return best;
    }

    int tiredest(int p) {
        needProgram(p);
        int best = -1;
        for (int k = 0; k < state.kinds.size(); k++) {
            if (best < 0 || state.tiredness(p, k) > state.tiredness(p, best)) {
                best = k;
            }
        }
        return best;
    }

    int oldest() {
        needState();
        for (Signal s : state.signals) {
            if (s.queued()) {
                return s.number;
            }
        }
        return -1;
    }

    int loser(int p, int k) {
        needBoth(p, k);
        State then = state.copy();
        then.put(p, k, -1, 0);
        return then.ends.size() > state.ends.size() ? then.ends.get(0).number : -1;
    }

    double meanWait() {
        needState();
        long sum = 0;
        for (Signal s : state.ends) {
            sum += s.end == 0 ? s.endTime - s.sentAt : 0;
        }
        return state.countEnds(0) == 0 ? 0.0 : (double) sum / (double) state.countEnds(0);
    }

    float handledShare() {
        needState();
        return state.ends.isEmpty() ? 0.0f : (float) state.countEnds(0) / (float) state.ends.size();
    }

    int raisers(int k) {
        needState();
        needIndex(k, state.kinds.size());
        int set = 0;
        for (Map.Entry<String, Handler> entry : state.handlers.entrySet()) {
            for (int[] act : entry.getValue().acts) {
                if (act[0] == 0 && act[1] == k) {
                    set |= 1 << Integer.parseInt(entry.getKey().split(",")[0]);
                }
            }
        }
        return set;
    }

    int idleIn(int p) {
        needProgram(p);
        State then = state.copy();
        for (int t = 0; t <= 200; t++) {
            if (then.idle(p)) {
                return t;
            }
            then.pass();
        }
        return -1;
    }

    int calmIn() {
        needState();
        State then = state.copy();
        for (int t = 0; t <= 200; t++) {
            boolean calm = true;
            for (int p = 0; p < then.programs.size(); p++) {
                calm &= then.idle(p);
            }
            if (calm) {
                return t;
            }
            then.pass();
        }
        return -1;
    }

    private int[] fate(int signal) {
        needState();
        needIndex(signal, state.signals.size());
        if (state.signals.get(signal).end >= 0) {
            return new int[] {-1, -1};
        }
        State then = state.copy();
        for (int t = 1; t <= 200; t++) {
            then.pass();
            if (then.signals.get(signal).end >= 0) {
                return new int[] {t, then.signals.get(signal).end};
            }
        }
        return new int[] {-1, -1};
    }

    int endIn(int signal) {
        return fate(signal)[0];
    }

    int endOf(int signal) {
        return fate(signal)[1];
    }

    private State behind(int ticks) {
        State then = state.copy();
        for (int t = 0; t < ticks; t++) {
            then.pass();
        }
        return then;
    }

    int endsIn(int end, int ticks) {
        needState();
        needIn(end, 0, 5);
        needIn(ticks, 0, 200);
        return behind(ticks).countEnds(end) - state.countEnds(end);
    }

    int urgencyIn(int p, int k, int ticks) {
        needBoth(p, k);
        needIn(ticks, 0, 200);
        return behind(ticks).urgency(p, k);
    }

    int sentIn(int ticks) {
        needState();
        needIn(ticks, 0, 200);
        return behind(ticks).signals.size() - state.signals.size();
    }

    int bestMask(int p) {
        needProgram(p);
        int best = -1;
        int fewest = Integer.MAX_VALUE;
        for (int k = 0; k < state.kinds.size(); k++) {
            if (!state.isMasked(p, k)) {
                State then = state.copy();
                then.putMask(p, k, true);
                for (int t = 0; t < 50; t++) {
                    then.pass();
                }
                if (then.lostAt(p) < fewest) {
                    fewest = then.lostAt(p);
                    best = k;
                }
            }
        }
        return best;
    }

    int writeQueue(int p) {
        needProgram(p);
        List<String> parts = new ArrayList<>();
        for (Signal s : state.order(p)) {
            parts.add(s.number + "." + state.kindNames.get(s.kind) + "=" + s.value);
        }
        text = String.join(" ", parts);
        return text.length();
    }

    int writeStack(int p) {
        needProgram(p);
        List<String> parts = new ArrayList<>();
        for (Signal s : state.stacks.get(p)) {
            parts.add(state.kindNames.get(s.kind) + ":" + s.left);
        }
        text = String.join(">", parts);
        return text.length();
    }

    int writeEnds() {
        needState();
        List<String> parts = new ArrayList<>();
        for (Signal s : state.ends.subList(0, state.told())) {
            parts.add(s.number + "" + "hfaqnd".charAt(s.end));
        }
        text = String.join(" ", parts);
        return text.length();
    }

    int textByte(int i) {
        needIndex(i, text.length());
        return text.charAt(i);
    }

    private void remember() {
        past.add(state.copy());
        if (past.size() > 8) {
            past.remove(0);
        }
    }

    int tick(int ticks) {
        needState();
        needIn(ticks, 1, 200);
        needIn(state.time + ticks, 0, 9999);
        remember();
        int before = state.ends.size();
        for (int t = 0; t < ticks; t++) {
            state.pass();
        }
        return state.ends.size() - before;
    }

    int send(int p, int k, int value) {
        needBoth(p, k);
        needIn(value, 0, 999);
        remember();
        return state.put(p, k, -1, value);
    }

    boolean mask(int p, int k, boolean is) {
        needBoth(p, k);
        remember();
        boolean was = state.isMasked(p, k);
        state.putMask(p, k, is);
        return was;
    }

    int drop(int signal) {
        needState();
        needIndex(signal, state.signals.size());
        remember();
        Signal s = state.signals.get(signal);
        if (s.queued()) {
            state.giveEnd(s, 5);
            return 0;
        }
        if (s.running) {
            state.stacks.get(s.to).remove(s);
            state.giveEnd(s, 5);
            return 1;
        }
        return 2;
    }

    int clear(int p) {
        needProgram(p);
        remember();
        List<Signal> dropped = state.byNumbers(p);
        for (Signal s : dropped) {
            state.giveEnd(s, 5);
        }
        return dropped.size();
    }

    int refresh(int p) {
        needProgram(p);
        remember();
        int sum = 0;
        for (int k = 0; k < state.kinds.size(); k++) {
            sum += state.tiredness(p, k);
            state.tired.put(p + "," + k, 0);
        }
        return sum;
    }

    int setKind(int k, int what, int value) {
        needState();
        needIndex(k, state.kinds.size());
        needIn(what, 0, 2);
        needIn(value, what == 1 ? 0 : 1, new int[] {99, 20, 200}[what]);
        remember();
        int was = state.kinds.get(k)[what];
        state.kinds.get(k)[what] = value;
        return was;
    }

    int set(int what, int value) {
        needState();
        needIn(what, 0, 2);
        needIn(value, what == 1 ? 0 : 1, what == 0 ? 4 : 50);
        remember();
        int was = setting(what);
        if (what == 0) {
            state.depth = value;
        } else if (what == 1) {
            state.nest = value;
        } else {
            state.rest = value;
        }
        return was;
    }

    int undo() {
        if (past.isEmpty()) {
            throw noState();
        }
        state = past.remove(past.size() - 1);
        return past.size();
    }

    int save(int slot) {
        needState();
        needIndex(slot, 2);
        slots[slot] = state.copy();
        return state.time;
    }

    int restore(int slot) {
        needIndex(slot, 2);
        if (slots[slot] == null) {
            throw noState();
        }
        state = slots[slot].copy();
        past.clear();
        return state.time;
    }
}
