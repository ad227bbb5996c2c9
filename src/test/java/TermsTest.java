import java.lang.reflect.InvocationTargetException;
import java.lang.reflect.Method;
import java.lang.reflect.Modifier;
import java.util.ArrayList;
import java.util.HashMap;
import java.util.HashSet;
import java.util.List;
import java.util.Map;
import java.util.Random;
import java.util.Set;
import java.util.TreeMap;

/**
 * What the document says of all calls at once: what is refused changes nothing (but the tape, as told), nor does what
 * only asks; no call throws by edge and random numbers; only the answers that a promise names are given.
 */
public final class TermsTest {
    /** How often each edge comes in each argument's place, by how many arguments there are. */
    private static final int[] TIMES = {1, 1, 4, 10, 15};
    private static final int MOST_CALLS = 512;
    private static final int[] EDGES = {
        Integer.MIN_VALUE, Integer.MIN_VALUE + 1, -65536, -129, -128, -41, -20, -16, -5, -4, -3, -2, -1, 0, 1, 2, 3, 4,
        5, 6, 7, 8, 9, 10, 11, 12, 13, 14, 15, 16, 17, 32, 38, 39, 40, 41, 60, 61, 127, 128, 159, 160, 161, 511, 512,
        65535, 65536, 1 << 30, Integer.MAX_VALUE - 38, Integer.MAX_VALUE - 1, Integer.MAX_VALUE
    };
    /** Which answers below 0 each call has; those that are not here have none. */
    private static final Map<String, Set<Long>> REFUSALS = new HashMap<>();
    /** Which of them were answered here. */
    private static final Map<String, Set<Long>> MET = new HashMap<>();
    /** These change what there is when they are not refused; all others only ask. */
    private static final Set<String> CHANGING = Set.of("feed", "end", "text", "first", "turn", "cut", "grind",
        "regrind", "crack", "show", "forget", "keep", "back", "sheet", "lay", "read");

    private static final Map<String, Method> CALLS = new TreeMap<>();
    private static int wrong = 0;
    private static int tried = 0;

    public static void main(String[] args) {
        tellRefusals();
        for (Method method : BackLenses.class.getDeclaredMethods()) {
            if (Modifier.isPublic(method.getModifiers())) {
                CALLS.put(method.getName(), method);
            }
        }
        for (int state = 0; state < 4; state++) {
            String untouched = observe(inState(state));
            for (String name : CALLS.keySet()) {
                tryCall(state, name, untouched);
            }
        }
        answersBelowNoneAreKnown();
        System.out.println(CALLS.size() + " calls, " + tried + " tried in 4 states, " + wrong + " not as due");
        if (wrong != 0 || CALLS.size() != 43) {
            System.exit(1);
        }
    }

    private static void tellRefusals() {
        String onlyBad = "end rule mark change lens first cut regrind crack sees frame between all since forget apart"
            + " places guard luck mean drift keep";
        for (String name : onlyBad.split(" ")) {
            REFUSALS.put(name, Set.of(-1L));
        }
        for (String name : "feed turn grind show".split(" ")) {
            REFUSALS.put(name, Set.of(-1L, -3L));
        }
        for (String name : "shows look likely count".split(" ")) {
            REFUSALS.put(name, Set.of(-1L, -4L));
        }
        for (String name : "hide best back".split(" ")) {
            REFUSALS.put(name, Set.of(-1L, -2L));
        }
        REFUSALS.put("lie", Set.of(-4L));
        REFUSALS.put("sheet", Set.of(-1L, -14L));
        REFUSALS.put("lay", Set.of(-1L, -11L, -12L));
        Set<Long> reads = new HashSet<>(Set.of(-1L));
        for (long i = 0; i < 13; i++) {
            reads.add(-20 - i);
        }
        REFUSALS.put("read", reads);
        Set<Long> texts = new HashSet<>();
        for (long place = 0; place <= 160; place++) {
            texts.add(-10 - place);
        }
        REFUSALS.put("text", texts);
    }

    private static void complain(String what) {
        wrong++;
        System.out.println(what);
    }

    /** The object, and how many calls it has had. */
    private static final class Run {
        final BackLenses object = new BackLenses();
        int calls = 0;

        long ask(String name, Object... args) {
            calls++;
            if (calls > MOST_CALLS) {
                throw new IllegalStateException("more calls than the document allows");
            }
            try {
                return ((Number) CALLS.get(name).invoke(object, args)).longValue();
            } catch (InvocationTargetException e) {
                complain(name + List.of(args) + " threw " + e.getCause());
                return Long.MIN_VALUE;
            } catch (IllegalAccessException e) {
                throw new IllegalStateException(e);
            }
        }

        void tell(String text) {
            feed(text);
            ask("text");
        }

        void feed(String bytes) {
            for (char c : bytes.toCharArray()) {
                ask("feed", (int) c);
            }
        }

        void sheet(int k, int lane, int size, int... cells) {
            ask("sheet", k, lane, size);
            for (int i = 0; i < cells.length; i++) {
                ask("lay", k, i, cells[i]);
            }
        }
    }

    /** New; in use; with no room left; and one by which no day fits, told a fault, with a torn read behind it. */
    private static Run inState(int state) {
        Run run = new Run();
        switch (state) {
            case 0:
                break;
            case 1:
                run.tell("house 3 2;last 4;cell 1 2;turn 3 5 1;turn 1 0 4;lens 2 0;lens 4;");
                run.ask("show", 0, 1, 2);
                run.ask("keep", 1);
                run.ask("turn", 4, 2, 5);
                run.sheet(0, 0, 7, 1, 2, 3, 4, 5, 0);
                run.sheet(2, 2, 4, 0, 0, 1, 2);
                run.ask("sheet", 3, 1, 0);
                run.feed("lens 2 1;");
                break;
            case 2:
                run.tell("house 2 2;last 2;");
                run.ask("keep", 1);
                for (int i = 0; i < 10; i++) {
                    run.ask("turn", i % 3, i % 4, i % 6);
                    run.ask("grind", i % 3, i);
                    run.ask("show", 0, 0, 3);
                }
                run.ask("keep", 0);
                run.sheet(0, 2, 40, 2, 1, 0, 0, 3, 5);
                run.sheet(3, 0, 3, 1, 1, 1);
                run.feed(" ".repeat(152) + "last 1;;");
                break;
            default:
                run.tell("house 4 4;last 3;cell 5 4;cell 10 5;turn 1 5 0;turn 2 10 3;lens 1 0 1 2;lens 0;lens 3 15;");
                run.ask("show", 4, 6, -4);
                run.ask("show", 4, 6, 0);
                run.ask("show", 4, 5, 1);
                run.sheet(1, 1, 5, 3, 2, 1, 3, 15);
                run.ask("read", 1, 1, 0, 2);
                run.tell("last 3;cell 16 0;");
                run.feed("turn 1 1");
                break;
        }
        return run;
    }

    /** All that can be asked, at last by what uses it up, too: the tape is read, images are taken back, sheets read. */
    private static String observe(Run run) {
        StringBuilder s = new StringBuilder();
        s.append("fault ").append(run.ask("fault")).append(" torn ").append(run.ask("torn"));
        for (int what = 0; what <= 5; what++) {
            s.append(' ').append(run.ask("count", what));
        }
        observeBook(run, s);
        for (int k = 0; k < 2; k++) {
            s.append("\nimage ").append(k).append(": ").append(run.ask("back", k));
            observeBook(run, s);
        }
        for (int k = 0; k < 4; k++) {
            observeSheet(run, k, s);
        }
        s.append("\ntape: ").append(run.ask("text")).append(' ').append(run.ask("fault"));
        return s.append(' ').append(run.ask("rule", 2)).append(' ').append(run.ask("lens", 0, 1)).toString();
    }

    private static void observeBook(Run run, StringBuilder s) {
        s.append("\nbook:");
        for (int what = 0; what <= 4; what++) {
            s.append(' ').append(run.ask("rule", what));
        }
        for (long i = run.ask("rule", 3) - 1; i >= 0; i--) {
            for (int what = 0; what <= 2; what++) {
                s.append(' ').append(run.ask("change", (int) i, what));
            }
        }
        for (long l = run.ask("rule", 4) - 1; l >= 0; l--) {
            s.append(' ').append(run.ask("lens", (int) l, 0)).append(' ').append(run.ask("lens", (int) l, 1));
        }
        for (int m = 1; m <= 5; m++) {
            s.append(' ').append(run.ask("all", m, 0));
        }
        s.append(" lie ").append(run.ask("lie")).append(" days");
        for (long n = run.ask("count", 0) - 1; n >= 0; n--) {
            s.append(' ').append(run.ask("days"));
            run.ask("forget", (int) n);
        }
    }

    private static void observeSheet(Run run, int k, StringBuilder s) {
        s.append("\nsheet ").append(k).append(':');
        for (int lane = 0; lane < 3; lane++) {
            run.ask("cut", 0, 0);
            s.append(' ').append(run.ask("read", k, lane, 0, 1)).append(' ').append(run.ask("torn"));
            for (int what = 0; what <= 2; what++) {
                s.append(' ').append(run.ask("change", 0, what));
            }
        }
        for (int i : new int[] {0, 2, 3, 4, 5, 6, 38, 39}) {
            s.append(' ').append(run.ask("lay", k, i, 0));
        }
    }

    private static void tryCall(int state, String name, String untouched) {
        Random random = new Random(1000 * state + name.hashCode());
        Class<?>[] types = CALLS.get(name).getParameterTypes();
        int vectors = types.length == 0 ? 1 : TIMES[types.length] * types.length * EDGES.length;
        for (int v = 0; v < vectors; v++) {
            Object[] args = anyArguments(types, v, random);
            Run run = inState(state);
            long answer = run.ask(name, args);
            tried++;
            if (answer < 0) {
                MET.computeIfAbsent(name, n -> new HashSet<>()).add(answer);
            }
            if (answer < 0 || !CHANGING.contains(name)) {
                String before = name.equals("text") ? withoutTape(untouched) : untouched;
                String after = name.equals("text") ? withoutTape(observe(run)) : observe(run);
                if (!after.equals(before)) {
                    complain(name + List.of(args) + " answered " + answer + " and changed\n"
                        + before + "\nto\n" + after);
                }
            }
        }
    }

    /** A text with a fault leaves its fault behind and the tape empty, and changes nothing else. */
    private static String withoutTape(String observed) {
        return observed.substring(observed.indexOf("\nbook:"), observed.indexOf("\ntape:"));
    }

    /** An edge in one place, in turn; mostly small numbers in the others, so that it is this one that counts. */
    private static Object[] anyArguments(Class<?>[] types, int v, Random random) {
        List<Object> args = new ArrayList<>();
        for (int i = 0; i < types.length; i++) {
            if (types[i] == boolean.class) {
                args.add(random.nextBoolean());
            } else if (v / EDGES.length % types.length == i) {
                args.add(EDGES[v % EDGES.length]);
            } else {
                args.add(random.nextInt(4) != 0 ? random.nextInt(4) : EDGES[random.nextInt(EDGES.length)]);
            }
        }
        return args.toArray();
    }

    private static void answersBelowNoneAreKnown() {
        for (Map.Entry<String, Set<Long>> entry : MET.entrySet()) {
            Set<Long> others = new HashSet<>(entry.getValue());
            others.removeAll(REFUSALS.getOrDefault(entry.getKey(), Set.of()));
            if (!others.isEmpty()) {
                complain(entry.getKey() + " answered " + others + ", which its promise does not name");
            }
        }
        for (String name : REFUSALS.keySet()) {
            Set<Long> unmet = new HashSet<>(REFUSALS.get(name));
            unmet.removeAll(MET.getOrDefault(name, Set.of()));
            boolean byPlace = name.equals("text") || name.equals("read");
            if (byPlace ? unmet.size() > REFUSALS.get(name).size() - 2 : !unmet.isEmpty()) {
                complain(name + " was never seen to answer " + unmet);
            }
        }
    }
}
