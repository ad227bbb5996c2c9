import java.util.Arrays;

/** A house of cells that changes by days, and lenses that show one of its days; README.md tells how to use it. */
public final class BackLenses {
    public static final int BAD = -1, STATE = -2, FULL = -3, NONE = -4;

    private static final int MOST_CELLS = 16, MOST_DAYS = 10, MARKS = 6;
    private static final int CURTAIN = 4, DOOR = 5;
    private static final int MOST_CHANGES = 10, MOST_LENSES = 6, MOST_SHOWN = 8;
    private static final int TAPE_ROOM = 160, IMAGES = 2;
    private static final int SHEETS = 4, SHEET_ROOM = 40, LANES = 3, MOST_READ = 13;
    private static final int NO_FAULT = 0, FAULT_NULL = 1, FAULT_INDEX = 2, FAULT_CAST = 3, FAULT_SIZE = 4;
    private static final int MOST_PAIRS = 45;
    private static final int MOST_DRIFT = 60;
    /** Ten to the power of the most lenses: every odds of theirs is a whole number of parts of it. */
    private static final long PARTS = 1000000L;

    private final Book book;
    private final Book[] images;
    private final boolean[] imageThere;
    private final Views views;
    private final Reader reader;
    private int textFault;
    private final Sheet[] sheets;
    private int readFault;
    /** Sets of cells of each of which a set that is looked for must have one. */
    private final int[] wants;
    /** How many days answer a look by each mark, and behind them by none in sight. */
    private final int[] tally;

    public BackLenses() {
        book = new Book();
        images = new Book[IMAGES];
        for (int k = 0; k < IMAGES; k++) {
            images[k] = new Book();
        }
        imageThere = new boolean[IMAGES];
        views = new Views();
        reader = new Reader();
        sheets = new Sheet[SHEETS];
        for (int k = 0; k < SHEETS; k++) {
            sheets[k] = new Sheet();
        }
        wants = new int[MOST_PAIRS];
        tally = new int[MARKS + 1];
    }

    // ---- the text

    public int feed(int c) {
        if (c < 0 || c > 127) {
            return BAD;
        }
        return reader.put(c);
    }

    public int end(int n) {
        return reader.shorten(n);
    }

    public int text() {
        textFault = reader.readTape();
        if (textFault != NO_FAULT) {
            return -10 - reader.place;
        }
        book.become(reader.target);
        views.stale = true;
        for (int k = 0; k < IMAGES; k++) {
            imageThere[k] = false;
        }
        return reader.lines;
    }

    public int fault() {
        return textFault;
    }

    public int rule(int what) {
        switch (what) {
            case 0:
                return book.wide;
            case 1:
                return book.high;
            case 2:
                return book.last;
            case 3:
                return book.changes.size;
            case 4:
                return book.lenses.size;
            default:
                return BAD;
        }
    }

    public int mark(int c, int d) {
        if (!book.hasCell(c) || !book.hasDay(d)) {
            return BAD;
        }
        return freshViews().markOf(c, d);
    }

    public int change(int i, int what) {
        if (!book.changes.has(i) || what < 0 || what > 2) {
            return BAD;
        }
        return book.changes.number(i, what);
    }

    public int lens(int l, int what) {
        if (!book.lenses.has(l) || !isChoice(what)) {
            return BAD;
        }
        return book.lenses.number(l, what);
    }

    // ---- what is changed

    public int first(int c, int m) {
        if (!book.hasCell(c) || !isMark(m)) {
            return BAD;
        }
        int was = book.atFirst[c];
        book.atFirst[c] = m;
        views.stale = true;
        return was;
    }

    public int turn(int d, int c, int m) {
        int answer = book.takeChange(d, c, m);
        views.stale = true;
        return answer;
    }

    public int cut(int what, int n) {
        if (!isChoice(what)) {
            return BAD;
        }
        Rows rows = what == 0 ? book.changes : book.lenses;
        views.stale = true;
        return rows.shorten(n);
    }

    public int grind(int d, int blind) {
        if (!book.hasDay(d) || blind >>> book.cells() != 0) {
            return BAD;
        }
        return book.lenses.add(d, blind, 0);
    }

    public int regrind(int l, int d) {
        if (!book.lenses.has(l) || !book.hasDay(d)) {
            return BAD;
        }
        return book.lenses.replace(l, 0, d);
    }

    public int crack(int l, int c, boolean is) {
        if (!book.lenses.has(l) || !book.hasCell(c)) {
            return BAD;
        }
        int blind = book.lenses.number(l, 1);
        int bit = 1 << c;
        book.lenses.replace(l, 1, is ? blind | bit : blind & ~bit);
        return (blind & bit) != 0 ? 1 : 0;
    }

    // ---- looks

    public int sees(int x, int d) {
        if (!book.hasCell(x) || !book.hasDay(d)) {
            return BAD;
        }
        return freshViews().sightOf(x, d);
    }

    public int shows(int l, int x, int c) {
        if (!book.lenses.has(l) || !book.hasCell(x) || !book.hasCell(c)) {
            return BAD;
        }
        if ((shownBy(l, x) >> c & 1) == 0) {
            return NONE;
        }
        return freshViews().markOf(c, book.lenses.number(l, 0));
    }

    public int frame(int l, int k, int x) {
        if (!book.lenses.has(l) || !book.lenses.has(k) || !book.hasCell(x)) {
            return BAD;
        }
        int unlike = freshViews().unlike(book.lenses.number(l, 0), book.lenses.number(k, 0));
        return shownBy(l, x) & shownBy(k, x) & unlike;
    }

    public int between(int d, int e) {
        if (!book.hasDay(d) || !book.hasDay(e)) {
            return BAD;
        }
        return freshViews().unlike(d, e);
    }

    public int all(int m, int d) {
        if (!isMark(m) || !book.hasDay(d)) {
            return BAD;
        }
        return freshViews().cellsWith(m, d);
    }

    public int since(int c, int d, int what) {
        if (!book.hasCell(c) || !book.hasDay(d) || !isChoice(what)) {
            return BAD;
        }
        Views seen = freshViews();
        int m = seen.markOf(c, d);
        int step = what == 0 ? -1 : 1;
        int reached = d;
        for (int e = d + step; e >= 0 && e <= book.last && seen.markOf(c, e) == m; e += step) {
            reached = e;
        }
        return reached;
    }

    public int again() {
        Views seen = freshViews();
        int bits = 0;
        for (int d = 1; d <= book.last; d++) {
            for (int e = 0; e < d; e++) {
                if (seen.unlike(e, d) == 0) {
                    bits |= 1 << d;
                    break;
                }
            }
        }
        return bits;
    }

    // ---- of which day a lens is

    public int show(int x, int c, int m) {
        if (!book.hasCell(x) || !book.hasCell(c) || !isMark(m) && m != NONE) {
            return BAD;
        }
        return book.shown.add(x, c, m);
    }

    public int forget(int n) {
        return book.shown.shorten(n);
    }

    public int days() {
        return fitting(book.shown.size);
    }

    public int lie() {
        for (int i = 0; i < book.shown.size; i++) {
            if (fitting(i + 1) == 0) {
                return i;
            }
        }
        return NONE;
    }

    public int look(int what) {
        if (!isChoice(what)) {
            return BAD;
        }
        int fits = fitting(book.shown.size);
        int fewest = Integer.bitCount(fits);
        int where = NONE;
        int cells = book.cells();
        for (int x = 0; x < cells; x++) {
            for (int c = 0; c < cells; c++) {
                int left = leftAtWorst(x, c, fits);
                if (left < fewest) {
                    fewest = left;
                    where = MOST_CELLS * x + c;
                }
            }
        }
        return what == 0 || where == NONE ? where : fewest;
    }

    public long likely(int c, int m, int what) {
        if (!book.hasCell(c) || !isMark(m) || !isChoice(what)) {
            return BAD;
        }
        int fits = fitting(book.shown.size);
        if (fits == 0) {
            return NONE;
        }
        Views seen = freshViews();
        int with = 0;
        for (int d = 0; d <= book.last; d++) {
            if ((fits >> d & 1) != 0 && seen.markOf(c, d) == m) {
                with++;
            }
        }
        return fractionPart(with, Integer.bitCount(fits), what);
    }

    public int could() {
        int fits = fitting(book.shown.size);
        int bits = 0;
        for (int l = 0; l < book.lenses.size; l++) {
            if ((fits >> book.lenses.number(l, 0) & 1) != 0) {
                bits |= 1 << l;
            }
        }
        return bits;
    }

    // ---- places

    public int apart(int d, int e) {
        if (!book.hasDay(d) || !book.hasDay(e)) {
            return BAD;
        }
        return freshViews().tellingApart(d, e, book.cells());
    }

    public int places(int what) {
        if (!isChoice(what)) {
            return BAD;
        }
        Views seen = freshViews();
        int cells = book.cells();
        int n = 0;
        for (int d = 0; d < book.last; d++) {
            for (int e = d + 1; e <= book.last; e++) {
                int telling = seen.tellingApart(d, e, cells);
                if (telling != 0 && n < MOST_PAIRS) {
                    wants[n] = telling;
                    n++;
                }
            }
        }
        int set = leastSet(n, cells);
        return what == 0 ? Integer.bitCount(set) : set;
    }

    public int guard(int d, int what) {
        if (!book.hasDay(d) || !isChoice(what)) {
            return BAD;
        }
        Views seen = freshViews();
        int cells = book.cells();
        for (int c = 0; c < cells; c++) {
            int watchers = 0;
            for (int x = 0; x < cells; x++) {
                watchers |= (seen.sightOf(x, d) >> c & 1) << x;
            }
            wants[c] = watchers;
        }
        int set = leastSet(cells, cells);
        return what == 0 ? Integer.bitCount(set) : set;
    }

    public int hide(int x) {
        if (!book.hasCell(x)) {
            return BAD;
        }
        if (book.lenses.size == 0) {
            return STATE;
        }
        Views seen = freshViews();
        int bits = 0;
        for (int l = 0; l < book.lenses.size; l++) {
            bits |= seen.sightOf(x, book.lenses.number(l, 0));
        }
        return ~bits & (1 << book.cells()) - 1;
    }

    public int best(int what) {
        if (!isChoice(what)) {
            return BAD;
        }
        if (book.lenses.size == 0) {
            return STATE;
        }
        int most = -1;
        int where = 0;
        for (int x = 0; x < book.cells(); x++) {
            int bits = 0;
            for (int l = 0; l < book.lenses.size; l++) {
                bits |= shownBy(l, x);
            }
            if (Integer.bitCount(bits) > most) {
                most = Integer.bitCount(bits);
                where = x;
            }
        }
        return what == 0 ? where : most;
    }

    // ---- odds

    public long luck(int v, int x, int c, int what) {
        if (!isTenth(v) || !book.hasCell(x) || !book.hasCell(c) || !isChoice(what)) {
            return BAD;
        }
        return fractionPart(partsShown(v, x, c), PARTS, what);
    }

    public long mean(int v, int x, int what) {
        if (!isTenth(v) || !book.hasCell(x) || !isChoice(what)) {
            return BAD;
        }
        long parts = 0;
        for (int c = 0; c < book.cells(); c++) {
            parts += partsShown(v, x, c);
        }
        return fractionPart(parts, PARTS, what);
    }

    // ---- by a seed

    public int drift(int seed, int n, int what) {
        if (n < 1 || n > MOST_DRIFT || !isChoice(what)) {
            return BAD;
        }
        Views seen = freshViews();
        int cells = book.cells();
        seen.copyToSpareDay(book.last);
        int s = seed;
        for (int i = 0; i < n; i++) {
            s = nextSeed(s);
            int c = drawn(s, cells);
            s = nextSeed(s);
            seen.markOnSpareDay(c, drawn(s, MARKS));
        }
        return what == 0 ? seen.cellsWith(0, MOST_DAYS) : seen.sightOnSpareDay(0);
    }

    // ---- images, sheets

    public int keep(int k) {
        if (k < 0 || k >= IMAGES) {
            return BAD;
        }
        int was = imageThere[k] ? 1 : 0;
        images[k].become(book);
        imageThere[k] = true;
        return was;
    }

    public int back(int k) {
        if (k < 0 || k >= IMAGES) {
            return BAD;
        }
        if (!imageThere[k]) {
            return STATE;
        }
        book.become(images[k]);
        views.stale = true;
        return book.changes.size;
    }

    public int sheet(int k, int lane, int n) {
        if (!isSheet(k) || !isLane(lane) || n > SHEET_ROOM) {
            return BAD;
        }
        if (n < 0) {
            return -10 - FAULT_SIZE;
        }
        sheets[k].renew(lane, n);
        return 1;
    }

    public int lay(int k, int i, int v) {
        if (!isSheet(k)) {
            return BAD;
        }
        int found = sheets[k].faultAt(i);
        if (found != NO_FAULT) {
            return -10 - found;
        }
        sheets[k].put(i, v);
        return 1;
    }

    public int read(int k, int lane, int f, int n) {
        if (!isSheet(k) || !isLane(lane) || n < 0 || n > MOST_READ) {
            return BAD;
        }
        Sheet row = sheets[k];
        int had = book.changes.size;
        int found = row.faultAsLane(lane);
        views.stale = true;
        for (int i = 0; i < n && found == NO_FAULT; i++) {
            int at = f + 3 * i;
            found = row.faultAtThree(at);
            if (found == NO_FAULT && book.takeChange(row.cells[at], row.cells[at + 1], row.cells[at + 2]) < 0) {
                book.changes.shorten(had);
                return -20 - i;
            }
        }
        readFault = found;
        return book.changes.size - had;
    }

    public int torn() {
        return readFault;
    }

    public int count(int what) {
        switch (what) {
            case 0:
                return book.shown.size;
            case 1:
                return (imageThere[0] ? 1 : 0) + (imageThere[1] ? 1 : 0);
            case 2:
                return reader.length;
            case 3:
                return sheets[0].isNothing() ? NONE : sheets[0].size;
            case 4:
                return Integer.bitCount(fitting(book.shown.size));
            case 5:
                return daysOfChange();
            default:
                return BAD;
        }
    }

    // ---- what the calls share

    private static boolean isChoice(int what) {
        return what == 0 || what == 1;
    }

    private static boolean isMark(int m) {
        return m >= 0 && m < MARKS;
    }

    private static boolean isTenth(int v) {
        return v >= 0 && v <= 10;
    }

    private static boolean isSheet(int k) {
        return k >= 0 && k < SHEETS;
    }

    private static boolean isLane(int lane) {
        return lane >= 0 && lane < LANES;
    }

    private Views freshViews() {
        if (views.stale) {
            views.build(book);
        }
        return views;
    }

    private int shownBy(int l, int x) {
        return freshViews().sightOf(x, book.lenses.number(l, 0)) & ~book.lenses.number(l, 1);
    }

    /** The days (bits) that fit the first n shown alone. */
    private int fitting(int n) {
        Views seen = freshViews();
        int bits = 0;
        for (int d = 0; d <= book.last; d++) {
            boolean fits = true;
            for (int i = 0; i < n && fits; i++) {
                int answer = seen.answerOf(book.shown.number(i, 0), book.shown.number(i, 1), d);
                fits = answer == book.shown.number(i, 2);
            }
            if (fits) {
                bits |= 1 << d;
            }
        }
        return bits;
    }

    private int leftAtWorst(int x, int c, int fits) {
        Views seen = freshViews();
        Arrays.fill(tally, 0);
        int worst = 0;
        for (int d = 0; d <= book.last; d++) {
            if ((fits >> d & 1) != 0) {
                int answer = seen.answerOf(x, c, d);
                int slot = answer == NONE ? MARKS : answer;
                tally[slot]++;
                worst = Math.max(worst, tally[slot]);
            }
        }
        return worst;
    }

    /** Of the sets that have one of each of the first n wants: the least among those with fewest cells. */
    private int leastSet(int n, int cells) {
        if (n == 0) {
            return 0;
        }
        int limit = 1 << cells;
        for (int size = 1; size <= cells; size++) {
            int set = (1 << size) - 1;
            for (int tries = 0; tries < limit && set < limit; tries++) {
                if (meetsWants(set, n)) {
                    return set;
                }
                set = nextOfSameSize(set);
            }
        }
        return limit - 1;
    }

    private boolean meetsWants(int set, int n) {
        for (int i = 0; i < n; i++) {
            if ((wants[i] & set) == 0) {
                return false;
            }
        }
        return true;
    }

    /** Sets of one size come in ascending order, so that the first that serves is the least. */
    private static int nextOfSameSize(int set) {
        int low = set & -set;
        int raised = set + low;
        int zerosBelow = Integer.bitCount(low - 1);
        return raised | (set ^ raised) >>> 2 >>> zerosBelow;
    }

    /** In parts of PARTS: that from x at least one whole lens shows c. */
    private long partsShown(int v, int x, int c) {
        int showing = 0;
        for (int l = 0; l < book.lenses.size; l++) {
            showing += shownBy(l, x) >> c & 1;
        }
        long allBroken = 1;
        for (int i = 0; i < MOST_LENSES; i++) {
            allBroken *= i < showing ? v : 10;
        }
        return PARTS - allBroken;
    }

    /** The numerator (what 0) or the denominator (1) in lowest terms; below is above 0. */
    private static long fractionPart(long top, long below, int what) {
        long divisor = below;
        long rest = top;
        for (int i = 0; i < 100 && rest != 0; i++) {
            long next = divisor % rest;
            divisor = rest;
            rest = next;
        }
        if (divisor == 0) {
            return BAD;
        }
        return (what == 0 ? top : below) / divisor;
    }

    private static int nextSeed(int seed) {
        return seed * 1103515245 + 12345;
    }

    private static int drawn(int seed, int choices) {
        return choices > 0 ? (seed >>> 16 & 0x7fff) % choices : 0;
    }

    private int daysOfChange() {
        Views seen = freshViews();
        int n = 0;
        for (int d = 1; d <= book.last; d++) {
            if (seen.unlike(d - 1, d) != 0) {
                n++;
            }
        }
        return n;
    }

    /** A short list of rows of three numbers, made once so that no call needs a new one. */
    private static final class Rows {
        private final int[] numbers;
        private final int room;
        private int size;

        Rows(int room) {
            this.room = room;
            numbers = new int[3 * room];
        }

        boolean has(int i) {
            return i >= 0 && i < size;
        }

        int number(int i, int column) {
            return numbers[3 * i + column];
        }

        int replace(int i, int column, int value) {
            int was = numbers[3 * i + column];
            numbers[3 * i + column] = value;
            return was;
        }

        int add(int a, int b, int c) {
            if (size >= room) {
                return FULL;
            }
            numbers[3 * size] = a;
            numbers[3 * size + 1] = b;
            numbers[3 * size + 2] = c;
            size++;
            return size;
        }

        int shorten(int n) {
            if (n < 0 || n > size) {
                return BAD;
            }
            int had = size;
            size = n;
            return had;
        }

        void become(Rows other) {
            size = other.size;
            System.arraycopy(other.numbers, 0, numbers, 0, numbers.length);
        }
    }

    /** All that a text tells, and what is shown: what is kept by an image, too. */
    private static final class Book {
        private int wide, high, last;
        private final int[] atFirst;
        private final Rows changes, lenses, shown;

        Book() {
            wide = 3;
            high = 3;
            last = MOST_DAYS - 1;
            atFirst = new int[MOST_CELLS];
            changes = new Rows(MOST_CHANGES);
            lenses = new Rows(MOST_LENSES);
            shown = new Rows(MOST_SHOWN);
        }

        void empty() {
            wide = 3;
            high = 3;
            last = MOST_DAYS - 1;
            Arrays.fill(atFirst, 0);
            changes.size = 0;
            lenses.size = 0;
            shown.size = 0;
        }

        void become(Book other) {
            wide = other.wide;
            high = other.high;
            last = other.last;
            System.arraycopy(other.atFirst, 0, atFirst, 0, MOST_CELLS);
            changes.become(other.changes);
            lenses.become(other.lenses);
            shown.become(other.shown);
        }

        int cells() {
            return wide * high;
        }

        boolean hasCell(int c) {
            return c >= 0 && c < wide * high;
        }

        boolean hasDay(int d) {
            return d >= 0 && d <= last;
        }

        int takeChange(int d, int c, int m) {
            if (!hasDay(d) || !hasCell(c) || !isMark(m)) {
                return BAD;
            }
            return changes.add(d, c, m);
        }
    }

    /** Marks and sights of all days, worked out anew only when the book has changed. */
    private static final class Views {
        /** A row of cells for each day, and behind them a spare day to try changes on. */
        private final int[] marks;
        private final int[] sights;
        private int wide, high;
        private boolean stale;

        Views() {
            marks = new int[(MOST_DAYS + 1) * MOST_CELLS];
            sights = new int[MOST_DAYS * MOST_CELLS];
            stale = true;
        }

        void build(Book book) {
            wide = book.wide;
            high = book.high;
            for (int d = 0; d <= book.last; d++) {
                buildMarks(book, d);
                for (int x = 0; x < wide * high; x++) {
                    sights[d * MOST_CELLS + x] = sight(d * MOST_CELLS, x);
                }
            }
            stale = false;
        }

        private void buildMarks(Book book, int d) {
            int at = d * MOST_CELLS;
            if (d == 0) {
                System.arraycopy(book.atFirst, 0, marks, 0, MOST_CELLS);
            } else {
                System.arraycopy(marks, at - MOST_CELLS, marks, at, MOST_CELLS);
            }
            for (int i = 0; i < book.changes.size; i++) {
                if (book.changes.number(i, 0) == d) {
                    marks[at + book.changes.number(i, 1)] = book.changes.number(i, 2);
                }
            }
        }

        private int sight(int at, int x) {
            int row = wide > 0 ? x / wide : 0;
            int column = x - row * wide;
            return 1 << x
                | ray(at, x, -wide, row, true)
                | ray(at, x, wide, high - 1 - row, true)
                | ray(at, x, -1, column, false)
                | ray(at, x, 1, wide - 1 - column, false);
        }

        private int ray(int at, int x, int step, int steps, boolean doorsStop) {
            int bits = 0;
            for (int i = 1; i <= steps; i++) {
                int c = x + i * step;
                bits |= 1 << c;
                int m = marks[at + c];
                if (m == CURTAIN || doorsStop && m == DOOR) {
                    break;
                }
            }
            return bits;
        }

        int markOf(int c, int d) {
            return marks[d * MOST_CELLS + c];
        }

        int sightOf(int x, int d) {
            return sights[d * MOST_CELLS + x];
        }

        int answerOf(int x, int c, int d) {
            return (sightOf(x, d) >> c & 1) != 0 ? markOf(c, d) : NONE;
        }

        int cellsWith(int m, int d) {
            int bits = 0;
            for (int c = 0; c < wide * high; c++) {
                if (markOf(c, d) == m) {
                    bits |= 1 << c;
                }
            }
            return bits;
        }

        int unlike(int d, int e) {
            int bits = 0;
            for (int c = 0; c < wide * high; c++) {
                if (markOf(c, d) != markOf(c, e)) {
                    bits |= 1 << c;
                }
            }
            return bits;
        }

        int tellingApart(int d, int e, int cells) {
            int changed = unlike(d, e);
            int bits = 0;
            for (int x = 0; x < cells; x++) {
                if (sightOf(x, d) != sightOf(x, e) || (sightOf(x, d) & changed) != 0) {
                    bits |= 1 << x;
                }
            }
            return bits;
        }

        void copyToSpareDay(int d) {
            System.arraycopy(marks, d * MOST_CELLS, marks, MOST_DAYS * MOST_CELLS, MOST_CELLS);
        }

        void markOnSpareDay(int c, int m) {
            marks[MOST_DAYS * MOST_CELLS + c] = m;
        }

        int sightOnSpareDay(int x) {
            return sight(MOST_DAYS * MOST_CELLS, x);
        }
    }

    /** A row of bytes, shorts or ints, or nothing; it says what the machine would find wrong in its use. */
    private static final class Sheet {
        private static final int NOTHING = -1;

        private final int[] cells;
        private int lane;
        private int size;

        Sheet() {
            cells = new int[SHEET_ROOM];
            size = NOTHING;
        }

        boolean isNothing() {
            return size == NOTHING;
        }

        void renew(int newLane, int n) {
            lane = newLane;
            size = n;
            Arrays.fill(cells, 0);
        }

        /** The machine lets nothing (null) pass as a row of any lane, so a cast alone never finds NULL. */
        int faultAsLane(int asked) {
            return isNothing() || lane == asked ? NO_FAULT : FAULT_CAST;
        }

        int faultAt(int i) {
            if (isNothing()) {
                return FAULT_NULL;
            }
            return i >= 0 && i < size ? NO_FAULT : FAULT_INDEX;
        }

        int faultAtThree(int i) {
            int found = faultAt(i);
            return found == NO_FAULT ? faultAt(i + 2) : found;
        }

        void put(int i, int v) {
            if (lane == 0) {
                cells[i] = (byte) v;
            } else if (lane == 1) {
                cells[i] = (short) v;
            } else {
                cells[i] = v;
            }
        }
    }

    /** The tape; reads a text off it token by token, up to the first fault. */
    private static final class Reader {
        private static final int END = 0, NAME = 1, NUMBER = 2, SEMICOLON = 3;

        /** A book of its own takes what is read, so that a fault leaves the told one as it was. */
        private final Book target;
        private final byte[] bytes;
        private int length;
        private int next;
        private int kind;
        private int start;
        private int value;
        private int found;
        private int place;
        private int lines;
        private boolean houseTold;
        private boolean lastTold;
        private int cellsTold;

        Reader() {
            target = new Book();
            bytes = new byte[TAPE_ROOM];
        }

        int put(int c) {
            if (length >= TAPE_ROOM) {
                return FULL;
            }
            bytes[length] = (byte) c;
            length++;
            return length;
        }

        int shorten(int n) {
            if (n < 0 || n > length) {
                return BAD;
            }
            int had = length;
            length = n;
            return had;
        }

        /** Answers the fault, 0 if there is none; place and lines tell the rest, and the tape is empty then. */
        int readTape() {
            next = 0;
            found = NO_FAULT;
            place = 0;
            lines = 0;
            houseTold = false;
            lastTold = false;
            cellsTold = 0;
            target.empty();
            boolean goesOn = true;
            // A line takes bytes, so there are never more of them than bytes.
            for (int i = 0; i <= length && goesOn; i++) {
                goesOn = takeToken() && kind != END && takeLine();
                if (goesOn) {
                    lines++;
                }
            }
            if (found == NO_FAULT && !allIsThere()) {
                refuse(6, length);
            }
            length = 0;
            return found;
        }

        private boolean allIsThere() {
            int cells = target.cells();
            for (int i = 0; i < target.changes.size; i++) {
                if (!target.hasDay(target.changes.number(i, 0)) || !target.hasCell(target.changes.number(i, 1))) {
                    return false;
                }
            }
            for (int l = 0; l < target.lenses.size; l++) {
                if (!target.hasDay(target.lenses.number(l, 0)) || target.lenses.number(l, 1) >>> cells != 0) {
                    return false;
                }
            }
            return cellsTold >>> cells == 0;
        }

        private boolean refuse(int why, int where) {
            found = why;
            place = where;
            return false;
        }

        private boolean takeLine() {
            if (kind != NAME) {
                return refuse(2, start);
            }
            if (isName("house")) {
                return takeHouse();
            }
            if (isName("last")) {
                return takeLast();
            }
            if (isName("cell")) {
                return takeCell();
            }
            if (isName("turn")) {
                return takeTurn();
            }
            if (isName("lens")) {
                return takeLens();
            }
            return refuse(2, start);
        }

        private boolean takeHouse() {
            if (houseTold) {
                return refuse(4, start);
            }
            houseTold = true;
            if (!takeNumber(2, 4)) {
                return false;
            }
            target.wide = value;
            if (!takeNumber(2, 4)) {
                return false;
            }
            target.high = value;
            return takeSemicolon();
        }

        private boolean takeLast() {
            if (lastTold) {
                return refuse(4, start);
            }
            lastTold = true;
            if (!takeNumber(0, MOST_DAYS - 1)) {
                return false;
            }
            target.last = value;
            return takeSemicolon();
        }

        private boolean takeCell() {
            if (!takeNumber(0, MOST_CELLS - 1)) {
                return false;
            }
            int c = value;
            if ((cellsTold >> c & 1) != 0) {
                return refuse(4, start);
            }
            cellsTold |= 1 << c;
            if (!takeNumber(0, MARKS - 1)) {
                return false;
            }
            target.atFirst[c] = value;
            return takeSemicolon();
        }

        private boolean takeTurn() {
            if (target.changes.size >= MOST_CHANGES) {
                return refuse(5, start);
            }
            if (!takeNumber(0, MOST_DAYS - 1)) {
                return false;
            }
            int d = value;
            if (!takeNumber(0, MOST_CELLS - 1)) {
                return false;
            }
            int c = value;
            if (!takeNumber(0, MARKS - 1)) {
                return false;
            }
            target.changes.add(d, c, value);
            return takeSemicolon();
        }

        private boolean takeLens() {
            if (target.lenses.size >= MOST_LENSES) {
                return refuse(5, start);
            }
            if (!takeNumber(0, MOST_DAYS - 1)) {
                return false;
            }
            int d = value;
            int blind = 0;
            // Each blind cell is told once, so a line ends or is refused within these tokens.
            for (int i = 0; i <= MOST_CELLS; i++) {
                if (!takeToken()) {
                    return false;
                }
                if (kind == SEMICOLON) {
                    target.lenses.add(d, blind, 0);
                    return true;
                }
                if (!isNumberWithin(0, MOST_CELLS - 1)) {
                    return false;
                }
                if ((blind >> value & 1) != 0) {
                    return refuse(4, start);
                }
                blind |= 1 << value;
            }
            return refuse(4, start);
        }

        private boolean takeNumber(int low, int high) {
            return takeToken() && isNumberWithin(low, high);
        }

        private boolean isNumberWithin(int low, int high) {
            if (kind != NUMBER) {
                return refuse(2, start);
            }
            return value >= low && value <= high || refuse(3, start);
        }

        private boolean takeSemicolon() {
            return takeToken() && (kind == SEMICOLON || refuse(2, start));
        }

        /** Blanks part tokens but need not stand between them: each token is as long as may be. */
        private boolean takeToken() {
            while (next < length && bytes[next] == ' ') {
                next++;
            }
            start = next;
            if (next >= length) {
                kind = END;
                return true;
            }
            if (bytes[next] == ';') {
                next++;
                kind = SEMICOLON;
                return true;
            }
            if (isLetter(bytes[next])) {
                while (next < length && isLetter(bytes[next])) {
                    next++;
                }
                kind = NAME;
                return true;
            }
            value = 0;
            while (next < length && isFigure(bytes[next])) {
                value = 10 * value + bytes[next] - '0';
                next++;
            }
            kind = NUMBER;
            return next - start == 1 || next - start == 2 || refuse(1, start);
        }

        private static boolean isLetter(int b) {
            return b >= 'a' && b <= 'z';
        }

        private static boolean isFigure(int b) {
            return b >= '0' && b <= '9';
        }

        private boolean isName(String name) {
            if (next - start != name.length()) {
                return false;
            }
            for (int i = 0; i < name.length(); i++) {
                if (bytes[start + i] != name.charAt(i)) {
                    return false;
                }
            }
            return true;
        }
    }
}
