import java.io.IOException;
import java.lang.reflect.Constructor;
import java.lang.reflect.Field;
import java.lang.reflect.Method;
import java.lang.reflect.Modifier;
import java.nio.charset.StandardCharsets;
import java.nio.file.Files;
import java.nio.file.Path;
import java.util.ArrayList;
import java.util.Arrays;
import java.util.List;
import java.util.Map;
import java.util.TreeMap;
import java.util.TreeSet;

/** The public face, and those rules of LANGUAGE.md that can be seen from outside. */
public final class FaceTest {
    private static final String FACE = "append(int,int,int,int,int)int load(int)int parseError()int errorPosition()int"
            + " buffered()int find(boolean,int)int count(int)int setting(int)int kind(int,int)int program(int,int)int"
            + " handler(int,int,int)int urgency(int,int)int tiredness(int,int)int queue(int,int,int)int"
            + " running(int,int,int)int end(int,int)int whereIs(int)int next(int)int busiest()int tiredest(int)int"
            + " oldest()int loser(int,int)int meanWait()double handledShare()float raisers(int)int idleIn(int)int"
            + " calmIn()int endIn(int)int endOf(int)int endsIn(int,int)int urgencyIn(int,int,int)int sentIn(int)int"
            + " bestMask(int)int writeQueue(int)int writeStack(int)int writeEnds()int textByte(int)int tick(int)int"
            + " send(int,int,int)int mask(int,int,boolean)boolean drop(int)int clear(int)int refresh(int)int"
            + " setKind(int,int,int)int set(int,int)int undo()int undoable()int save(int)int restore(int)int";

    public static void main(String[] args) throws IOException {
        face();
        faceOfTheDocument();
        source();
        wildArguments();
        Checks.close("FaceTest");
    }

    private static void face() {
        TreeSet<String> methods = new TreeSet<>();
        TreeSet<String> names = new TreeSet<>();
        for (Method method : FadingSignals.class.getDeclaredMethods()) {
            if (Modifier.isPublic(method.getModifiers())) {
                StringBuilder text = new StringBuilder(method.getName()).append('(');
                for (Class<?> type : method.getParameterTypes()) {
                    text.append(text.charAt(text.length() - 1) == '(' ? "" : ",").append(type);
                }
                methods.add(text.append(')').append(method.getReturnType()).toString());
                names.add(method.getName());
            } else {
                Checks.due("rule 1: private " + method, Modifier.isPrivate(method.getModifiers()), true);
            }
        }
        Checks.due("the public methods", methods, new TreeSet<>(Arrays.asList(FACE.split(" "))));
        for (Field field : FadingSignals.class.getDeclaredFields()) {
            Checks.due("rule 1: " + field, Modifier.isPrivate(field.getModifiers()) || field.getName().equals("NONE"),
                    true);
        }
        Constructor<?>[] made = FadingSignals.class.getDeclaredConstructors();
        Checks.due("one constructor", made.length, 1);
        Checks.due("it is public", Modifier.isPublic(made[0].getModifiers()), true);
        Checks.due("the class is public and final", FadingSignals.class.getModifiers(),
                Modifier.PUBLIC | Modifier.FINAL);
        inside(names);
    }

    /** Each line of the document's face stands in the class as it is, with its names and its exceptions. */
    private static void faceOfTheDocument() throws IOException {
        String document = Files.readString(Path.of("../shared/DOC.md"), StandardCharsets.UTF_8);
        String program = Files.readString(Path.of("src/main/java/FadingSignals.java"), StandardCharsets.ISO_8859_1)
                .replaceAll("\\s+", " ");
        int lines = 0;
        for (String line : document.split("```")[1].split("\n")) {
            if (line.startsWith("    public ") || line.startsWith("public ")) {
                lines++;
                String due = line.trim().replaceAll(";$", line.contains("(") ? " {" : ";");
                Checks.due("the class has: " + due, program.contains(" " + due), true);
            }
        }
        Checks.due("lines of the document's face", lines, 52);
    }

    private static void inside(TreeSet<String> publicNames) {
        List<Class<?>> all = new ArrayList<>(Arrays.asList(FadingSignals.class.getDeclaredClasses()));
        Checks.due("rule 11: some twelve classes", all.size() <= 12, true);
        for (Class<?> c : all) {
            Checks.due("rule 1: private and static " + c,
                    Modifier.isPrivate(c.getModifiers()) && Modifier.isStatic(c.getModifiers()), true);
        }
        all.add(FadingSignals.class);
        for (Class<?> c : all) {
            int fields = 0;
            for (Field field : c.getDeclaredFields()) {
                boolean constant = Modifier.isStatic(field.getModifiers());
                fields += constant ? 0 : 1;
                Checks.due("rule 5: " + field, !constant || Modifier.isFinal(field.getModifiers()), true);
            }
            Checks.due("rule 11: some twenty fields " + c, fields <= 20, true);
            for (Method method : c.getDeclaredMethods()) {
                boolean taken = publicNames.contains(method.getName()) && !Modifier.isPublic(method.getModifiers());
                Checks.due("rule 1: the name of " + method, taken, false);
                Checks.due("rule 11: parameters of " + method, method.getParameterCount() <= 7, true);
            }
        }
    }

    private static void source() throws IOException {
        String text = Files.readString(Path.of("src/main/java/FadingSignals.java"), StandardCharsets.ISO_8859_1);
        for (String banned : new String[] {"import ", "package ", "->", "::", "try {", "catch (", "finally", "synchronized",
            "assert", "Object", "hashCode", "toString", "static {", "record ", "\t"}) {
            Checks.due("rules 2 to 6: no " + banned, text.contains(banned), false);
        }
        int long120 = 0;
        int begun = -1;
        String[] lines = text.split("\n");
        Map<String, Integer> lengths = new TreeMap<>();
        for (int i = 0; i < lines.length; i++) {
            long120 += lines[i].length() > 120 ? 1 : 0;
            if (lines[i].matches("( {4}| {8})(public|private|static|int|void|boolean|byte|[A-Z]\\w*)\\b.*\\(.*")
                    && !lines[i].endsWith(";")) {
                begun = i;
            } else if (begun >= 0 && lines[i].matches("( {4}| {8})}")) {
                lengths.put(lines[begun].trim(), i - begun + 1);
                begun = -1;
            }
        }
        Checks.due("no line is longer than 120 signs", long120, 0);
        Checks.due("methods were found", lengths.size() > 100, true);
        lengths.forEach((name, length) -> Checks.due("rule 11: length of " + name, length <= 60, true));
    }

    /** Whatever the arguments are, only the exceptions of the document come out, and not one of a class below them. */
    private static void wildArguments() {
        int[] wild = {Integer.MIN_VALUE, -1000, -2, -1, 0, 1, 2, 3, 5, 7, 8, 12, 40, 99, 200, 700, 1000, 9999, 65536,
            Integer.MAX_VALUE - 1, Integer.MAX_VALUE};
        TreeSet<String> allowed = new TreeSet<>(List.of("IllegalStateException", "IndexOutOfBoundsException",
                "IllegalArgumentException"));
        String[] texts = {null, "hall 1 0 1 1", "hall 1 0 1 1;program p", "hall 4 0 1 1;kind a 1 20 1",
            "hall 2 1 2 3;kind a 20 8 30;kind b 30 5 30;program p;program q;handle p a 3 raise b q 7 drop a;handle q b 2"
            + " raise a p 0;send p a 1;send q b 2"};
        for (String text : texts) {
            for (Method method : FadingSignals.class.getDeclaredMethods()) {
                if (Modifier.isPublic(method.getModifiers())) {
                    wildCalls(text, method, wild, allowed);
                }
            }
        }
    }

    private static void wildCalls(String text, Method method, int[] wild, TreeSet<String> allowed) {
        FadingSignals x = null;
        int parameters = method.getParameterCount();
        for (int i = 0; i < (parameters == 0 ? 1 : wild.length * wild.length * wild.length); i++) {
            // An object has but 512 calls, those that load its text among them.
            if (i % 400 == 0) {
                x = text == null ? new FadingSignals() : Checks.loaded(text);
            }
            Object[] arguments = new Object[parameters];
            int rest = i;
            for (int p = 0; p < parameters; p++) {
                boolean flag = method.getParameterTypes()[p] == boolean.class;
                arguments[p] = flag ? (Object) (rest % 2 == 0) : (Object) wild[rest % wild.length];
                rest /= wild.length;
            }
            try {
                method.invoke(x, arguments);
            } catch (java.lang.reflect.InvocationTargetException e) {
                String name = e.getCause().getClass().getSimpleName();
                Checks.due(method.getName() + Arrays.toString(arguments) + " throws " + name, allowed.contains(name),
                        true);
            } catch (IllegalAccessException e) {
                Checks.due(method.getName() + " can be called", false, true);
            }
        }
    }
}
