import java.util.ArrayList;
import java.util.List;

/** Reads a text for the Model: first all tokens, then a line behind the other; an error is thrown. */
final class ModelParser {
    private static final class Wrong extends RuntimeException {
        private static final long serialVersionUID = 1L;
        final int code;

        Wrong(int code) {
            this.code = code;
        }
    }

    int code = 0;
    int position = -1;
    private final List<String> tokens = new ArrayList<>();
    private final List<Integer> starts = new ArrayList<>();
    private int next = 0;
    private int sends = 0;
    private final Model.State state = new Model.State();

    ModelParser(String text) {
        int at = 0;
        while (at < text.length()) {
            String token = longest(text.substring(at));
            if (!token.equals(" ")) {
                tokens.add(token);
                starts.add(at);
            }
            at += token.length();
        }
        tokens.add("");
        starts.add(text.length());
    }

    private static String longest(String rest) {
        for (String form : new String[] {"[a-z]+", "[0-9]+"}) {
            String behind = rest.replaceFirst("^" + form, "");
            if (behind.length() < rest.length()) {
                return rest.substring(0, rest.length() - behind.length());
            }
        }
        return rest.substring(0, 1);
    }

    Model.State read() {
        try {
            readAll();
            return state;
        } catch (Wrong wrong) {
            code = wrong.code;
            position = starts.get(next);
            return null;
        }
    }

    private boolean sees(String token) {
        return tokens.get(next).equals(token);
    }

    private String word() {
        if (!tokens.get(next).matches("[a-z]{1,7}")) {
            throw new Wrong(1);
        }
        return tokens.get(next);
    }

    private int number(int low, int high) {
        if (!tokens.get(next).matches("[0-9]{1,3}")) {
            throw new Wrong(1);
        }
        int number = Integer.parseInt(tokens.get(next));
        if (number < low || number > high) {
            throw new Wrong(2);
        }
        next++;
        return number;
    }

    private String newName(List<String> names) {
        String name = word();
        if (names.contains(name)) {
            throw new Wrong(3);
        }
        next++;
        return name;
    }

    private int known(List<String> names) {
        int number = names.indexOf(word());
        if (number < 0) {
            throw new Wrong(3);
        }
        return number;
    }

    private int take(List<String> names) {
        int number = known(names);
        next++;
        return number;
    }

    private void room(boolean is) {
        if (!is) {
            throw new Wrong(4);
        }
        next++;
    }

    private void readAll() {
        if (!sees("hall")) {
            throw new Wrong(1);
        }
        next++;
        state.depth = number(1, 4);
        state.nest = number(0, 50);
        state.rest = number(1, 50);
        state.cap = number(1, 12);
        while (!sees("")) {
            if (!sees(";")) {
                throw new Wrong(1);
            }
            next++;
            readLine();
        }
    }

    private void readLine() {
        if (sees("kind")) {
            room(state.kinds.size() < 8);
            state.kindNames.add(newName(state.kindNames));
            state.kinds.add(new int[] {number(1, 99), number(0, 20), number(1, 200)});
        } else if (sees("program")) {
            room(state.programs.size() < 6);
            state.programs.add(newName(state.programs));
            state.stacks.add(new ArrayList<>());
            state.masked.add(new ArrayList<>());
        } else if (sees("handle")) {
            next++;
            readHandler();
        } else if (sees("hide")) {
            next++;
            int p = take(state.programs);
            int k = known(state.kindNames);
            if (state.isMasked(p, k)) {
                throw new Wrong(3);
            }
            next++;
            state.putMask(p, k, true);
        } else if (sees("send")) {
            room(sends < 12);
            sends++;
            int p = take(state.programs);
            int k = take(state.kindNames);
            state.put(p, k, -1, number(0, 999));
        } else {
            throw new Wrong(1);
        }
    }

    private void readHandler() {
        int p = take(state.programs);
        int k = known(state.kindNames);
        if (state.handlers.containsKey(p + "," + k)) {
            throw new Wrong(3);
        }
        next++;
        Model.Handler handler = new Model.Handler();
        handler.ticks = number(1, 20);
        state.handlers.put(p + "," + k, handler);
        while (!sees(";") && !sees("")) {
            int type = List.of("raise", "mask", "unmask", "drop").indexOf(tokens.get(next));
            if (type < 0) {
                throw new Wrong(1);
            }
            room(handler.acts.size() < 4);
            int kind = take(state.kindNames);
            int program = type == 0 ? take(state.programs) : -1;
            int plus = type == 0 ? number(0, 999) : -1;
            handler.acts.add(new int[] {type, kind, program, plus});
        }
    }
}
