import java.math.BigInteger;
import java.util.ArrayList;
import java.util.HashMap;
import java.util.HashSet;
import java.util.List;
import java.util.Map;
import java.util.Random;
import java.util.Set;

/** Long runs of calls by fixed seeds, each answer held against a second program written another way. */
public final class ModelTest {
    private static final int BAD = -1, STATE = -2, FULL = -3, NONE = -4;
    private static final int RUNS = 1500, CALLS = 511;

    private static final String[] NAMES = {
        "feed", "end", "text", "fault", "rule", "mark", "change", "lens", "first", "turn", "cut", "grind", "regrind",
        "crack", "sees", "shows", "frame", "between", "all", "since", "again", "show", "forget", "days", "lie", "look",
        "likely", "could", "apart", "places", "guard", "hide", "best", "luck", "mean", "drift", "keep", "back",
        "sheet", "lay", "read", "torn", "count"
    };

    public static void main(String[] args) {
        Map<String, Set<Long>> seen = new HashMap<>();
        for (int run = 0; run < RUNS; run++) {
            if (!runOnce(run, seen)) {
                System.exit(1);
            }
        }
        for (String name : NAMES) {
            if (!seen.containsKey(name)) {
                System.out.println("no run called " + name);
                System.exit(1);
            }
        }
        if (args.length > 0) {
            for (String name : NAMES) {
                System.out.println(name + " gave " + seen.get(name).size() + " unlike answers");
            }
        }
        System.out.println("the model agrees in " + RUNS + " runs");
    }

    private static boolean runOnce(int run, Map<String, Set<Long>> seen) {
        Random random = new Random(run);
        BackLenses real = new BackLenses();
        Model model = new Model();
        StringBuilder told = new StringBuilder();
        List<int[]> pending = new ArrayList<>();
        for (int i = 0; i < CALLS; i++) {
            int[] call = pending.isEmpty() ? anyCall(random, model, pending, i) : pending.remove(0);
            long due = model.answer(call);
            long got = ask(real, call);
            String name = NAMES[call[0]];
            seen.computeIfAbsent(name, n -> new HashSet<>()).add(got);
            told.append(name).append('(').append(call[1]).append(", ").append(call[2]).append(", ").append(call[3])
                .append(", ").append(call[4]).append(") = ").append(got).append('\n');
            if (due != got) {
                System.out.println("run " + run + ": due is " + due + " for the last of\n" + told);
                return false;
            }
        }
        return true;
    }

    private static int index(String name) {
        for (int i = 0; i < NAMES.length; i++) {
            if (NAMES[i].equals(name)) {
                return i;
            }
        }
        throw new IllegalStateException(name);
    }

    private static int[] call(String name, int... args) {
        int[] call = new int[5];
        call[0] = index(name);
        System.arraycopy(args, 0, call, 1, args.length);
        return call;
    }

    private static int[] anyCall(Random random, Model model, List<int[]> pending, int i) {
        if (i == 0 && random.nextInt(4) != 0 || random.nextInt(120) == 0) {
            String text = anyText(random);
            for (int k = 0; k < text.length(); k++) {
                pending.add(call("feed", text.charAt(k)));
            }
            pending.add(call("text"));
            pending.add(call("fault"));
            return call("end", 0);
        }
        int what = random.nextInt(NAMES.length);
        if (NAMES[what].equals("text") && random.nextInt(3) != 0) {
            what = index("show");
        }
        int[] args = {what, 0, 0, 0, 0};
        fill(random, model, args);
        if (random.nextInt(25) == 0) {
            args[1 + random.nextInt(4)] = wild(random);
        }
        return args;
    }

    private static int wild(Random random) {
        int[] some = {Integer.MIN_VALUE, Integer.MAX_VALUE, -1, -2, -4, -5, 16, 17, 10, 6, 2, 3, 4, 41, 61, 128, 65536};
        return random.nextInt(3) == 0 ? random.nextInt() : some[random.nextInt(some.length)];
    }

    private static void fill(Random random, Model m, int[] a) {
        int cells = m.wide * m.high;
        switch (NAMES[a[0]]) {
            case "feed": a[1] = random.nextInt(130); break;
            case "end": a[1] = random.nextInt(m.tape.size() + 2); break;
            case "rule": a[1] = random.nextInt(6); break;
            case "mark": case "sees": a[1] = random.nextInt(cells); a[2] = random.nextInt(m.last + 1); break;
            case "change": a[1] = random.nextInt(m.changes.size() + 1); a[2] = random.nextInt(3); break;
            case "lens": a[1] = random.nextInt(m.lenses.size() + 1); a[2] = random.nextInt(2); break;
            case "first": a[1] = random.nextInt(cells); a[2] = random.nextInt(6); break;
            case "turn":
                a[1] = random.nextInt(m.last + 1); a[2] = random.nextInt(cells); a[3] = random.nextInt(6); break;
            case "cut": a[1] = random.nextInt(2); a[2] = random.nextInt((a[1] == 0 ? m.changes : m.lenses).size() + 2); break;
            case "grind": a[1] = random.nextInt(m.last + 1); a[2] = random.nextInt(1 << cells) & random.nextInt(); break;
            case "regrind": a[1] = random.nextInt(m.lenses.size() + 1); a[2] = random.nextInt(m.last + 1); break;
            case "crack":
                a[1] = random.nextInt(m.lenses.size() + 1); a[2] = random.nextInt(cells); a[3] = random.nextInt(2); break;
            case "shows":
                a[1] = random.nextInt(m.lenses.size() + 1); a[2] = random.nextInt(cells); a[3] = random.nextInt(cells); break;
            case "frame":
                a[1] = random.nextInt(m.lenses.size() + 1); a[2] = random.nextInt(m.lenses.size() + 1);
                a[3] = random.nextInt(cells); break;
            case "between": case "apart": a[1] = random.nextInt(m.last + 1); a[2] = random.nextInt(m.last + 1); break;
            case "all": a[1] = random.nextInt(6); a[2] = random.nextInt(m.last + 1); break;
            case "since":
                a[1] = random.nextInt(cells); a[2] = random.nextInt(m.last + 1); a[3] = random.nextInt(2); break;
            case "show":
                a[1] = random.nextInt(cells); a[2] = random.nextInt(cells); a[3] = random.nextInt(6);
                int d = random.nextInt(m.last + 1);
                if (random.nextInt(8) != 0) {
                    a[3] = m.inSight(a[1], a[2], d) ? m.markOn(a[2], d) : NONE;
                }
                break;
            case "forget": a[1] = random.nextInt(m.shown.size() + 2); break;
            case "look": case "places": case "best": a[1] = random.nextInt(2); break;
            case "likely": a[1] = random.nextInt(cells); a[2] = random.nextInt(6); a[3] = random.nextInt(2); break;
            case "guard": a[1] = random.nextInt(m.last + 1); a[2] = random.nextInt(2); break;
            case "hide": a[1] = random.nextInt(cells); break;
            case "luck":
                a[1] = random.nextInt(11); a[2] = random.nextInt(cells); a[3] = random.nextInt(cells);
                a[4] = random.nextInt(2); break;
            case "mean": a[1] = random.nextInt(11); a[2] = random.nextInt(cells); a[3] = random.nextInt(2); break;
            case "drift": a[1] = random.nextInt(); a[2] = random.nextInt(62); a[3] = random.nextInt(2); break;
            case "keep": case "back": a[1] = random.nextInt(2); break;
            case "sheet": a[1] = random.nextInt(4); a[2] = random.nextInt(3); a[3] = random.nextInt(43) - 1; break;
            case "lay":
                a[1] = random.nextInt(4); a[2] = random.nextInt(12);
                a[3] = random.nextInt(5) == 0 ? random.nextInt() : random.nextInt(5) + 65536 * random.nextInt(3); break;
            case "read":
                a[1] = random.nextInt(4); a[2] = random.nextInt(3); a[3] = random.nextInt(40) - 1;
                if (m.sheets[a[1]] != null && random.nextInt(4) != 0) {
                    a[2] = m.sheets[a[1]] instanceof byte[] ? 0 : m.sheets[a[1]] instanceof short[] ? 1 : 2;
                }
                a[4] = random.nextInt(random.nextInt(4) == 0 ? 15 : 4); break;
            case "count": a[1] = random.nextInt(7); break;
            default: break;
        }
    }

    private static String anyText(Random random) {
        StringBuilder text = new StringBuilder();
        int wide = 2 + random.nextInt(3), high = 2 + random.nextInt(3), last = random.nextInt(10);
        int cells = wide * high;
        if (random.nextInt(10) != 0) {
            text.append("house ").append(wide).append(' ').append(high).append(';');
        }
        if (random.nextInt(10) != 0) {
            text.append("last ").append(last).append(';');
        }
        int n = random.nextInt(13);
        for (int i = 0; i < n; i++) {
            switch (random.nextInt(5)) {
                case 0:
                    text.append("cell ").append(random.nextInt(cells)).append(' ').append(random.nextInt(6)); break;
                case 1: case 2: case 3:
                    text.append("turn").append(random.nextInt(last + 1)).append(' ').append(random.nextInt(cells))
                        .append(' ').append(random.nextInt(6)); break;
                default:
                    text.append("lens ").append(random.nextInt(last + 1));
                    for (int k = random.nextInt(3); k > 0; k--) {
                        text.append(' ').append(random.nextInt(cells));
                    }
                    break;
            }
            text.append(';');
        }
        String mutants = "; 0123459abhx#;\t\177";
        for (int k = random.nextInt(3) == 0 ? 1 + random.nextInt(2) : 0; k > 0 && text.length() > 0; k--) {
            int at = random.nextInt(text.length());
            char c = mutants.charAt(random.nextInt(mutants.length()));
            switch (random.nextInt(3)) {
                case 0: text.setCharAt(at, c); break;
                case 1: text.insert(at, c); break;
                default: text.deleteCharAt(at); break;
            }
        }
        return text.toString();
    }

    private static long ask(BackLenses x, int[] a) {
        switch (NAMES[a[0]]) {
            case "feed": return x.feed(a[1]);
            case "end": return x.end(a[1]);
            case "text": return x.text();
            case "fault": return x.fault();
            case "rule": return x.rule(a[1]);
            case "mark": return x.mark(a[1], a[2]);
            case "change": return x.change(a[1], a[2]);
            case "lens": return x.lens(a[1], a[2]);
            case "first": return x.first(a[1], a[2]);
            case "turn": return x.turn(a[1], a[2], a[3]);
            case "cut": return x.cut(a[1], a[2]);
            case "grind": return x.grind(a[1], a[2]);
            case "regrind": return x.regrind(a[1], a[2]);
            case "crack": return x.crack(a[1], a[2], a[3] == 1);
            case "sees": return x.sees(a[1], a[2]);
            case "shows": return x.shows(a[1], a[2], a[3]);
            case "frame": return x.frame(a[1], a[2], a[3]);
            case "between": return x.between(a[1], a[2]);
            case "all": return x.all(a[1], a[2]);
            case "since": return x.since(a[1], a[2], a[3]);
            case "again": return x.again();
            case "show": return x.show(a[1], a[2], a[3]);
            case "forget": return x.forget(a[1]);
            case "days": return x.days();
            case "lie": return x.lie();
            case "look": return x.look(a[1]);
            case "likely": return x.likely(a[1], a[2], a[3]);
            case "could": return x.could();
            case "apart": return x.apart(a[1], a[2]);
            case "places": return x.places(a[1]);
            case "guard": return x.guard(a[1], a[2]);
            case "hide": return x.hide(a[1]);
            case "best": return x.best(a[1]);
            case "luck": return x.luck(a[1], a[2], a[3], a[4]);
            case "mean": return x.mean(a[1], a[2], a[3]);
            case "drift": return x.drift(a[1], a[2], a[3]);
            case "keep": return x.keep(a[1]);
            case "back": return x.back(a[1]);
            case "sheet": return x.sheet(a[1], a[2], a[3]);
            case "lay": return x.lay(a[1], a[2], a[3]);
            case "read": return x.read(a[1], a[2], a[3], a[4]);
            case "torn": return x.torn();
            default: return x.count(a[1]);
        }
    }

    /** A fault of a text: which, and where. */
    private static final class Refused extends Exception {
        private static final long serialVersionUID = 1L;
        final int fault, place;

        Refused(int fault, int place) {
            super(null, null, false, false);
            this.fault = fault;
            this.place = place;
        }
    }

    private static final class Image {
        int[] first;
        List<int[]> changes, lenses, shown;
    }

    private static final class Model {
        int wide = 3, high = 3, last = 9;
        int[] first = new int[16];
        List<int[]> changes = new ArrayList<>(), lenses = new ArrayList<>(), shown = new ArrayList<>();
        List<Integer> tape = new ArrayList<>();
        int fault = 0, torn = 0;
        Image[] images = new Image[2];
        Object[] sheets = new Object[4];

        boolean cell(int c) {
            return 0 <= c && c < wide * high;
        }

        boolean day(int d) {
            return 0 <= d && d <= last;
        }

        static boolean in(int v, int low, int high) {
            return low <= v && v <= high;
        }

        int markOn(int c, int d) {
            int bestDay = -1, m = first[c];
            for (int[] t : changes) {
                if (t[1] == c && t[0] <= d && t[0] >= bestDay) {
                    bestDay = t[0];
                    m = t[2];
                }
            }
            return m;
        }

        boolean inSight(int x, int c, int d) {
            int[] marks = new int[16];
            for (int i = 0; i < wide * high; i++) {
                marks[i] = markOn(i, d);
            }
            return inSight(x, c, marks);
        }

        /** In sight by what stands strictly between, not by walking from x. */
        boolean inSight(int x, int c, int[] marks) {
            int xr = x / wide, xc = x % wide, cr = c / wide, cc = c % wide;
            if (xr != cr && xc != cc) {
                return false;
            }
            for (int i = 0; i < wide * high; i++) {
                int r = i / wide, k = i % wide;
                boolean across = r == xr && r == cr && (k - xc) * (k - cc) < 0;
                boolean upright = k == xc && k == cc && (r - xr) * (r - cr) < 0;
                if (across && marks[i] == 4 || upright && (marks[i] == 4 || marks[i] == 5)) {
                    return false;
                }
            }
            return true;
        }

        int sight(int x, int d) {
            int bits = 0;
            for (int c = 0; c < wide * high; c++) {
                bits |= inSight(x, c, d) ? 1 << c : 0;
            }
            return bits;
        }

        int lensMark(int l, int x, int c) {
            int[] lens = lenses.get(l);
            if ((lens[1] >> c & 1) == 1 || !inSight(x, c, lens[0])) {
                return NONE;
            }
            return markOn(c, lens[0]);
        }

        List<Integer> fit(int n) {
            List<Integer> days = new ArrayList<>();
            for (int d = 0; d <= last; d++) {
                boolean ok = true;
                for (int[] s : shown.subList(0, n)) {
                    boolean sees = inSight(s[0], s[1], d);
                    ok &= s[2] == NONE ? !sees : sees && markOn(s[1], d) == s[2];
                }
                if (ok) {
                    days.add(d);
                }
            }
            return days;
        }

        static int bits(List<Integer> some) {
            int bits = 0;
            for (int i : some) {
                bits |= 1 << i;
            }
            return bits;
        }

        String snapshot(int d) {
            StringBuilder s = new StringBuilder();
            for (int c = 0; c < wide * high; c++) {
                s.append(markOn(c, d));
            }
            return s.toString();
        }

        String view(int x, int d) {
            StringBuilder s = new StringBuilder();
            for (int c = 0; c < wide * high; c++) {
                s.append(inSight(x, c, d) ? "" + markOn(c, d) : "-");
            }
            return s.toString();
        }

        long answer(int[] a) {
            int p = a[1], q = a[2], r = a[3], s = a[4];
            switch (NAMES[a[0]]) {
                case "feed": return !in(p, 0, 127) ? BAD : tape.size() == 160 ? FULL : grow(tape, p);
                case "end": return cutTo(tape, p);
                case "text": return text();
                case "fault": return fault;
                case "rule":
                    return !in(p, 0, 4) ? BAD : new int[] {wide, high, last, changes.size(), lenses.size()}[p];
                case "mark": return cell(p) && day(q) ? markOn(p, q) : BAD;
                case "change": return in(p, 0, changes.size() - 1) && in(q, 0, 2) ? changes.get(p)[q] : BAD;
                case "lens": return in(p, 0, lenses.size() - 1) && in(q, 0, 1) ? lenses.get(p)[q] : BAD;
                case "first": return setFirst(p, q);
                case "turn": return turn(p, q, r);
                case "cut": return p == 0 ? cutTo(changes, q) : p == 1 ? cutTo(lenses, q) : BAD;
                case "grind":
                    return !day(p) || q < 0 || q >= 1 << wide * high ? BAD
                        : lenses.size() == 6 ? FULL : grow(lenses, new int[] {p, q});
                case "regrind": return in(p, 0, lenses.size() - 1) && day(q) ? swap(p, 0, q) : BAD;
                case "crack": return crack(p, q, r == 1);
                case "sees": return cell(p) && day(q) ? sight(p, q) : BAD;
                case "shows": return in(p, 0, lenses.size() - 1) && cell(q) && cell(r) ? lensMark(p, q, r) : BAD;
                case "frame": return frame(p, q, r);
                case "between": return between(p, q);
                case "all": return all(p, q);
                case "since": return since(p, q, r);
                case "again": return again();
                case "show":
                    return !cell(p) || !cell(q) || !in(r, 0, 5) && r != NONE ? BAD
                        : shown.size() == 8 ? FULL : grow(shown, new int[] {p, q, r});
                case "forget": return cutTo(shown, p);
                case "days": return bits(fit(shown.size()));
                case "lie": return lie();
                case "look": return look(p);
                case "likely": return likely(p, q, r);
                case "could": return could();
                case "apart": return day(p) && day(q) ? apart(p, q) : BAD;
                case "places": return places(p);
                case "guard": return guard(p, q);
                case "hide": return hide(p);
                case "best": return best(p);
                case "luck": return !cell(r) ? BAD : odds(p, q, 1 << r, s);
                case "mean": return odds(p, q, -1, r);
                case "drift": return drift(p, q, r);
                case "keep": return keep(p);
                case "back": return back(p);
                case "sheet": return sheet(p, q, r);
                case "lay": return lay(p, q, r);
                case "read": return read(p, q, r, s);
                case "torn": return torn;
                default: return count(p);
            }
        }

        static <T> int grow(List<T> list, T one) {
            list.add(one);
            return list.size();
        }

        static int cutTo(List<?> list, int n) {
            int had = list.size();
            if (!in(n, 0, had)) {
                return BAD;
            }
            list.subList(n, had).clear();
            return had;
        }

        int setFirst(int c, int m) {
            if (!cell(c) || !in(m, 0, 5)) {
                return BAD;
            }
            int was = first[c];
            first[c] = m;
            return was;
        }

        int turn(int d, int c, int m) {
            return !day(d) || !cell(c) || !in(m, 0, 5) ? BAD
                : changes.size() == 10 ? FULL : grow(changes, new int[] {d, c, m});
        }

        int swap(int l, int column, int v) {
            int[] old = lenses.get(l), fresh = old.clone();
            fresh[column] = v;
            lenses.set(l, fresh);
            return old[column];
        }

        int crack(int l, int c, boolean is) {
            if (!in(l, 0, lenses.size() - 1) || !cell(c)) {
                return BAD;
            }
            int blind = lenses.get(l)[1];
            boolean was = (blind & 1 << c) != 0;
            if (was != is) {
                swap(l, 1, blind ^ 1 << c);
            }
            return was ? 1 : 0;
        }

        int frame(int l, int k, int x) {
            if (!in(l, 0, lenses.size() - 1) || !in(k, 0, lenses.size() - 1) || !cell(x)) {
                return BAD;
            }
            int bits = 0;
            for (int c = 0; c < wide * high; c++) {
                int one = lensMark(l, x, c), two = lensMark(k, x, c);
                bits |= one != NONE && two != NONE && one != two ? 1 << c : 0;
            }
            return bits;
        }

        int between(int d, int e) {
            if (!day(d) || !day(e)) {
                return BAD;
            }
            int bits = 0;
            for (int c = 0; c < wide * high; c++) {
                bits |= markOn(c, d) != markOn(c, e) ? 1 << c : 0;
            }
            return bits;
        }

        int all(int m, int d) {
            if (!in(m, 0, 5) || !day(d)) {
                return BAD;
            }
            int bits = 0;
            for (int c = 0; c < wide * high; c++) {
                bits |= markOn(c, d) == m ? 1 << c : 0;
            }
            return bits;
        }

        int since(int c, int d, int what) {
            if (!cell(c) || !day(d) || !in(what, 0, 1)) {
                return BAD;
            }
            int e = d, step = what == 0 ? -1 : 1;
            while (day(e + step) && markOn(c, e + step) == markOn(c, d)) {
                e += step;
            }
            return e;
        }

        int again() {
            Set<String> known = new HashSet<>();
            int bits = 0;
            for (int d = 0; d <= last; d++) {
                bits |= known.add(snapshot(d)) ? 0 : 1 << d;
            }
            return bits;
        }

        int lie() {
            for (int n = 1; n <= shown.size(); n++) {
                if (fit(n).isEmpty()) {
                    return n - 1;
                }
            }
            return NONE;
        }

        int look(int what) {
            if (!in(what, 0, 1)) {
                return BAD;
            }
            List<Integer> fit = fit(shown.size());
            int fewest = Integer.MAX_VALUE, where = NONE;
            for (int x = wide * high - 1; x >= 0; x--) {
                for (int c = wide * high - 1; c >= 0; c--) {
                    Map<Integer, Integer> parts = new HashMap<>();
                    for (int d : fit) {
                        parts.merge(inSight(x, c, d) ? markOn(c, d) : NONE, 1, Integer::sum);
                    }
                    int worst = parts.values().stream().mapToInt(v -> v).max().orElse(0);
                    if (worst < fit.size() && worst <= fewest) {
                        fewest = worst;
                        where = 16 * x + c;
                    }
                }
            }
            return where == NONE ? NONE : what == 0 ? where : fewest;
        }

        static long part(BigInteger top, BigInteger below, int what) {
            BigInteger by = top.gcd(below);
            return (what == 0 ? top : below).divide(by).longValueExact();
        }

        long likely(int c, int m, int what) {
            if (!cell(c) || !in(m, 0, 5) || !in(what, 0, 1)) {
                return BAD;
            }
            List<Integer> fit = fit(shown.size());
            if (fit.isEmpty()) {
                return NONE;
            }
            long with = fit.stream().filter(d -> markOn(c, d) == m).count();
            return part(BigInteger.valueOf(with), BigInteger.valueOf(fit.size()), what);
        }

        int could() {
            List<Integer> fit = fit(shown.size());
            int bits = 0;
            for (int l = 0; l < lenses.size(); l++) {
                bits |= fit.contains(lenses.get(l)[0]) ? 1 << l : 0;
            }
            return bits;
        }

        int apart(int d, int e) {
            int bits = 0;
            for (int x = 0; x < wide * high; x++) {
                bits |= view(x, d).equals(view(x, e)) ? 0 : 1 << x;
            }
            return bits;
        }

        int fewest(List<Integer> wants, int what) {
            int best = -1;
            for (int set = 0; set < 1 << wide * high; set++) {
                if (best >= 0 && Integer.bitCount(set) >= Integer.bitCount(best)) {
                    continue;
                }
                boolean ok = true;
                for (int w : wants) {
                    ok &= (w & set) != 0;
                }
                if (ok) {
                    best = set;
                }
            }
            return what == 0 ? Integer.bitCount(best) : best;
        }

        int places(int what) {
            if (!in(what, 0, 1)) {
                return BAD;
            }
            List<Integer> wants = new ArrayList<>();
            for (int d = 0; d <= last; d++) {
                for (int e = 0; e < d; e++) {
                    if (apart(d, e) != 0) {
                        wants.add(apart(d, e));
                    }
                }
            }
            return fewest(wants, what);
        }

        int guard(int d, int what) {
            if (!day(d) || !in(what, 0, 1)) {
                return BAD;
            }
            List<Integer> wants = new ArrayList<>();
            for (int c = 0; c < wide * high; c++) {
                int from = 0;
                for (int x = 0; x < wide * high; x++) {
                    from |= inSight(x, c, d) ? 1 << x : 0;
                }
                wants.add(from);
            }
            return fewest(wants, what);
        }

        int hide(int x) {
            if (!cell(x)) {
                return BAD;
            }
            if (lenses.isEmpty()) {
                return STATE;
            }
            int bits = 0;
            for (int c = 0; c < wide * high; c++) {
                boolean ever = false;
                for (int[] lens : lenses) {
                    ever |= inSight(x, c, lens[0]);
                }
                bits |= ever ? 0 : 1 << c;
            }
            return bits;
        }

        int best(int what) {
            if (!in(what, 0, 1)) {
                return BAD;
            }
            if (lenses.isEmpty()) {
                return STATE;
            }
            int[] counts = new int[wide * high];
            int most = 0;
            for (int x = 0; x < wide * high; x++) {
                for (int c = 0; c < wide * high; c++) {
                    for (int l = 0; l < lenses.size(); l++) {
                        if (lensMark(l, x, c) != NONE) {
                            counts[x]++;
                            break;
                        }
                    }
                }
                most = Math.max(most, counts[x]);
            }
            int where = 0;
            while (counts[where] != most) {
                where++;
            }
            return what == 0 ? where : most;
        }

        /** Over every way to break: how many of the asked cells are shown, weighed by its odds. */
        long odds(int v, int x, int asked, int what) {
            if (!in(v, 0, 10) || !cell(x) || !in(what, 0, 1)) {
                return BAD;
            }
            BigInteger top = BigInteger.ZERO, below = BigInteger.TEN.pow(lenses.size());
            for (int whole = 0; whole < 1 << lenses.size(); whole++) {
                long weight = 1;
                int cells = 0;
                for (int l = 0; l < lenses.size(); l++) {
                    weight *= (whole >> l & 1) == 1 ? 10 - v : v;
                    for (int c = 0; c < wide * high && (whole >> l & 1) == 1; c++) {
                        cells |= lensMark(l, x, c) != NONE ? 1 << c : 0;
                    }
                }
                top = top.add(BigInteger.valueOf(weight * Integer.bitCount(cells & asked)));
            }
            return part(top, below, what);
        }

        int drift(int seed, int n, int what) {
            if (!in(n, 1, 60) || !in(what, 0, 1)) {
                return BAD;
            }
            int[] marks = new int[16];
            for (int c = 0; c < wide * high; c++) {
                marks[c] = markOn(c, last);
            }
            long s = seed & 0xffffffffL;
            for (int i = 0; i < n; i++) {
                s = (s * 1103515245L + 12345L) % (1L << 32);
                int c = (int) (s / 65536 % 32768 % (wide * high));
                s = (s * 1103515245L + 12345L) % (1L << 32);
                marks[c] = (int) (s / 65536 % 32768 % 6);
            }
            int bits = 0;
            for (int c = 0; c < wide * high; c++) {
                bits |= (what == 0 ? marks[c] == 0 : inSight(0, c, marks)) ? 1 << c : 0;
            }
            return bits;
        }

        int keep(int k) {
            if (!in(k, 0, 1)) {
                return BAD;
            }
            int was = images[k] == null ? 0 : 1;
            images[k] = new Image();
            images[k].first = first.clone();
            images[k].changes = List.copyOf(changes);
            images[k].lenses = List.copyOf(lenses);
            images[k].shown = List.copyOf(shown);
            return was;
        }

        int back(int k) {
            if (!in(k, 0, 1)) {
                return BAD;
            }
            if (images[k] == null) {
                return STATE;
            }
            first = images[k].first.clone();
            changes = new ArrayList<>(images[k].changes);
            lenses = new ArrayList<>(images[k].lenses);
            shown = new ArrayList<>(images[k].shown);
            return changes.size();
        }

        int sheet(int k, int lane, int n) {
            if (!in(k, 0, 3) || !in(lane, 0, 2) || n > 40) {
                return BAD;
            }
            try {
                sheets[k] = lane == 0 ? new byte[n] : lane == 1 ? new short[n] : (Object) new int[n];
                return 1;
            } catch (NegativeArraySizeException e) {
                return -14;
            }
        }

        int lay(int k, int i, int v) {
            if (!in(k, 0, 3)) {
                return BAD;
            }
            try {
                if (sheets[k] instanceof byte[]) {
                    ((byte[]) sheets[k])[i] = (byte) v;
                } else if (sheets[k] instanceof short[]) {
                    ((short[]) sheets[k])[i] = (short) v;
                } else {
                    ((int[]) sheets[k])[i] = v;
                }
                return 1;
            } catch (NullPointerException e) {
                return -11;
            } catch (ArrayIndexOutOfBoundsException e) {
                return -12;
            }
        }

        int read(int k, int lane, int f, int n) {
            if (!in(k, 0, 3) || !in(lane, 0, 2) || !in(n, 0, 13)) {
                return BAD;
            }
            int had = changes.size(), met = 0, i = 0;
            try {
                byte[] bytes = lane == 0 ? (byte[]) sheets[k] : null;
                short[] shorts = lane == 1 ? (short[]) sheets[k] : null;
                int[] ints = lane == 2 ? (int[]) sheets[k] : null;
                for (; i < n; i++) {
                    int[] t = new int[3];
                    for (int j = 0; j < 3; j++) {
                        int at = f + 3 * i + j;
                        t[j] = lane == 0 ? bytes[at] : lane == 1 ? shorts[at] : ints[at];
                    }
                    if (turn(t[0], t[1], t[2]) < 0) {
                        cutTo(changes, had);
                        return -20 - i;
                    }
                }
            } catch (NullPointerException e) {
                met = 1;
            } catch (ArrayIndexOutOfBoundsException e) {
                met = 2;
            } catch (ClassCastException e) {
                met = 3;
            }
            torn = met;
            return i;
        }

        int count(int what) {
            switch (what) {
                case 0: return shown.size();
                case 1: return (images[0] == null ? 0 : 1) + (images[1] == null ? 0 : 1);
                case 2: return tape.size();
                case 3:
                    return sheets[0] == null ? NONE : java.lang.reflect.Array.getLength(sheets[0]);
                case 4: return fit(shown.size()).size();
                case 5:
                    int n = 0;
                    for (int d = 1; d <= last; d++) {
                        n += snapshot(d).equals(snapshot(d - 1)) ? 0 : 1;
                    }
                    return n;
                default: return BAD;
            }
        }

        // ---- the text, by a string and positions in it

        String source;
        int at, from;

        String token() throws Refused {
            while (at < source.length() && source.charAt(at) == ' ') {
                at++;
            }
            from = at;
            if (at == source.length()) {
                return "";
            }
            java.util.regex.Matcher m = java.util.regex.Pattern.compile("[a-z]+|[0-9]+|;").matcher(source);
            m.region(at, source.length());
            if (!m.lookingAt() || Character.isDigit(source.charAt(at)) && m.end() - at > 2) {
                throw new Refused(1, at);
            }
            at = m.end();
            return m.group();
        }

        int number(String token, int low, int top) throws Refused {
            if (!token.matches("[0-9]+")) {
                throw new Refused(2, from);
            }
            int v = Integer.parseInt(token);
            if (v < low || v > top) {
                throw new Refused(3, from);
            }
            return v;
        }

        void stop() throws Refused {
            if (!token().equals(";")) {
                throw new Refused(2, from);
            }
        }

        int text() {
            StringBuilder s = new StringBuilder();
            for (int c : tape) {
                s.append((char) c);
            }
            source = s.toString();
            tape.clear();
            at = 0;
            Model fresh = new Model();
            try {
                int lines = parse(fresh);
                fault = 0;
                wide = fresh.wide;
                high = fresh.high;
                last = fresh.last;
                first = fresh.first;
                changes = fresh.changes;
                lenses = fresh.lenses;
                shown = new ArrayList<>();
                images = new Image[2];
                return lines;
            } catch (Refused e) {
                fault = e.fault;
                return -10 - e.place;
            }
        }

        int parse(Model m) throws Refused {
            Set<String> once = new HashSet<>();
            Set<Integer> cells = new HashSet<>(), days = new HashSet<>(), told = new HashSet<>();
            int lines = 0;
            for (String name = token(); !name.isEmpty(); name = token()) {
                switch (name) {
                    case "house":
                        if (!once.add(name)) {
                            throw new Refused(4, from);
                        }
                        m.wide = number(token(), 2, 4);
                        m.high = number(token(), 2, 4);
                        stop();
                        break;
                    case "last":
                        if (!once.add(name)) {
                            throw new Refused(4, from);
                        }
                        m.last = number(token(), 0, 9);
                        stop();
                        break;
                    case "cell":
                        int c = number(token(), 0, 15);
                        if (!told.add(c)) {
                            throw new Refused(4, from);
                        }
                        cells.add(c);
                        m.first[c] = number(token(), 0, 5);
                        stop();
                        break;
                    case "turn":
                        if (m.changes.size() == 10) {
                            throw new Refused(5, from);
                        }
                        int[] t = {number(token(), 0, 9), number(token(), 0, 15), number(token(), 0, 5)};
                        days.add(t[0]);
                        cells.add(t[1]);
                        m.changes.add(t);
                        stop();
                        break;
                    case "lens":
                        if (m.lenses.size() == 6) {
                            throw new Refused(5, from);
                        }
                        int[] l = {number(token(), 0, 9), 0};
                        days.add(l[0]);
                        for (String more = token(); !more.equals(";"); more = token()) {
                            int b = number(more, 0, 15);
                            if ((l[1] & 1 << b) != 0) {
                                throw new Refused(4, from);
                            }
                            l[1] |= 1 << b;
                            cells.add(b);
                        }
                        m.lenses.add(l);
                        break;
                    default:
                        throw new Refused(2, from);
                }
                lines++;
            }
            for (int c : cells) {
                if (c >= m.wide * m.high) {
                    throw new Refused(6, source.length());
                }
            }
            for (int d : days) {
                if (d > m.last) {
                    throw new Refused(6, source.length());
                }
            }
            return lines;
        }
    }
}
