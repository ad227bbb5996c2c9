import java.lang.reflect.InvocationTargetException;
import java.lang.reflect.Method;
import java.lang.reflect.Modifier;
import java.util.ArrayList;
import java.util.Comparator;
import java.util.List;

/** What the tests of boundary cases share: each test is a method named after its promise and runs by itself. */
abstract class Edges {
    static final int BAD = -1, STATE = -2, FULL = -3, NONE = -4;
    static final int LEAST = Integer.MIN_VALUE, MOST = Integer.MAX_VALUE;
    static final int TAPE = 160;

    private static volatile String running = "";
    private static int asked = 0;
    private static int wrong = 0;

    private static final long MOST_MILLIS = 300_000;

    static void run(Class<?> tests) {
        endAfterLong();
        List<Method> methods = new ArrayList<>();
        for (Method method : tests.getDeclaredMethods()) {
            if (method.getName().startsWith("promise") && Modifier.isStatic(method.getModifiers())) {
                methods.add(method);
            }
        }
        methods.sort(Comparator.comparing(Method::getName));
        for (Method method : methods) {
            runOne(method);
        }
        System.out.println(methods.size() + " tests, " + asked + " answers asked, " + wrong + " not as due");
        if (wrong != 0 || methods.isEmpty()) {
            System.exit(1);
        }
    }

    /** A call that does not end fails its test, too. */
    private static void endAfterLong() {
        Thread watch = new Thread(() -> {
            try {
                Thread.sleep(MOST_MILLIS);
            } catch (InterruptedException e) {
                return;
            }
            System.out.println(running + ": has not ended");
            Runtime.getRuntime().halt(1);
        });
        watch.setDaemon(true);
        watch.start();
    }

    private static void runOne(Method method) {
        running = method.getName();
        int before = asked;
        try {
            method.setAccessible(true);
            method.invoke(null);
        } catch (InvocationTargetException e) {
            complain("threw " + e.getCause());
        } catch (IllegalAccessException e) {
            complain("could not be run: " + e);
        }
        if (asked == before) {
            complain("asked nothing");
        }
    }

    private static void complain(String what) {
        wrong++;
        System.out.println(running + ": " + what);
    }

    static void due(String call, long got, long want) {
        asked++;
        if (got != want) {
            complain(call + " answered " + got + ", due is " + want);
        }
    }

    static void feedAll(BackLenses x, String text) {
        for (int i = 0; i < text.length(); i++) {
            x.feed(text.charAt(i));
        }
    }

    static int told(BackLenses x, String text) {
        feedAll(x, text);
        return x.text();
    }

    /** A new object that has been told a text. */
    static BackLenses house(String text) {
        BackLenses x = new BackLenses();
        int answer = told(x, text);
        if (answer < 0) {
            complain("the text " + text + " answered " + answer);
        }
        return x;
    }

    /** Three by two, days 0 to 4, with something of everything, a fault of a text and one of a read behind it. */
    static BackLenses busy() {
        BackLenses x = house("house 3 2;last 4;cell 1 2;turn 3 5 1;turn 1 0 4;lens 2 0;lens 4;");
        told(x, "x");
        x.read(3, 0, 0, 1);
        x.show(0, 1, 2);
        x.keep(0);
        x.sheet(0, 0, 5);
        x.feed('y');
        return x;
    }

    /** All that was told, changed and shown, by some hundred calls at most. */
    static String state(BackLenses x) {
        StringBuilder s = new StringBuilder();
        for (int what = 0; what < 5; what++) {
            s.append(x.rule(what)).append(' ');
        }
        for (int i = 0; i < x.rule(3); i++) {
            s.append("turn ").append(x.change(i, 0)).append(' ').append(x.change(i, 1)).append(' ')
                .append(x.change(i, 2)).append(' ');
        }
        for (int l = 0; l < x.rule(4); l++) {
            s.append("lens ").append(x.lens(l, 0)).append(' ').append(x.lens(l, 1)).append(' ');
        }
        int last = x.rule(2);
        for (int d = 0; d <= last; d++) {
            for (int m = 1; m <= 5; m++) {
                s.append(x.all(m, d)).append(' ');
            }
        }
        s.append("days ").append(x.days()).append(" lie ").append(x.lie()).append(" torn ").append(x.torn());
        for (int what = 0; what <= 5; what++) {
            s.append(' ').append(x.count(what));
        }
        return s.toString();
    }

    /** Calls that are refused: all that can be asked is as it was. */
    static void unchanged(BackLenses x, Runnable refused) {
        String before = state(x) + " fault " + x.fault();
        refused.run();
        String after = state(x) + " fault " + x.fault();
        asked++;
        if (!before.equals(after)) {
            complain("what is refused changed\n  " + before + " to\n  " + after);
        }
    }

    /** A text with a fault: all but the tape stays. */
    static void refuses(String text, int fault, int place) {
        BackLenses x = house("house 2 3;last 4;cell 1 2;turn 3 5 1;lens 2 0;");
        x.show(0, 1, 2);
        x.keep(0);
        String before = state(x);
        due("text() of '" + text + "'", told(x, text), -10 - place);
        due("fault() of '" + text + "'", x.fault(), fault);
        String after = state(x);
        asked++;
        if (!before.equals(after)) {
            complain("the refused '" + text + "' changed\n  " + before + " to\n  " + after);
        }
        due("back(0) after '" + text + "'", x.back(0), 1);
    }

    static BackLenses takes(String text, int lines) {
        BackLenses x = new BackLenses();
        due("text() of '" + text + "'", told(x, text), lines);
        due("fault() of '" + text + "'", x.fault(), 0);
        return x;
    }

    /** The text with blanks behind it up to a length. */
    static String padded(String text, int length) {
        return text + " ".repeat(length - text.length());
    }
}
