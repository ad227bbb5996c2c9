/** One test for each promise of the document: ordinary inputs, the edges that it names, wrong inputs. */
public final class PromisesTest {
    private static final int BAD = -1, STATE = -2, FULL = -3, NONE = -4;
    private static final int LEAST = Integer.MIN_VALUE, MOST = Integer.MAX_VALUE;

    private static int wrong = 0;
    private static int asked = 0;
    private static int promise = 0;

    public static void main(String[] args) {
        theText();
        whatIsChanged();
        looks();
        ofWhichDay();
        places();
        odds();
        imagesAndSheets();
        System.out.println(asked + " answers asked, " + wrong + " not as due");
        if (wrong != 0) {
            System.exit(1);
        }
    }

    private static void due(String what, long got, long want) {
        asked++;
        if (got != want) {
            wrong++;
            System.out.println("promise " + promise + ": " + what + " answered " + got + ", due is " + want);
        }
    }

    private static int told(BackLenses x, String text) {
        for (int i = 0; i < text.length(); i++) {
            due("feed in " + text, x.feed(text.charAt(i)), i + 1);
        }
        return x.text();
    }

    private static BackLenses house(String text) {
        BackLenses x = new BackLenses();
        due("text " + text, x.text(), 0);
        due("is taken: " + text, told(x, text) >= 0 ? 1 : 0, 1);
        return x;
    }

    /** Four by three: a curtain at 5, a door at 6; a chair at 0 that goes on day 1; days 4 and 5 alike. */
    private static BackLenses sample() {
        return house("house 4 3;last 5;cell 0 1;cell 5 4;cell 6 5;turn 1 0 0;turn 2 5 0;turn 2 0 3;"
            + "turn 4 5 4;turn 3 9 2;lens 0;lens 2 1;lens 4 0 8;");
    }

    private static void fault(String text, int kind, int place) {
        BackLenses x = sample();
        x.show(0, 0, 1);
        x.keep(1);
        due("text " + text, told(x, text), -10 - place);
        due("fault of " + text, x.fault(), kind);
        due("the tape after " + text, x.count(2), 0);
        due("wide after " + text, x.rule(0), 4);
        due("last after " + text, x.rule(2), 5);
        due("changes after " + text, x.rule(3), 5);
        due("lenses after " + text, x.rule(4), 3);
        due("first after " + text, x.mark(0, 0), 1);
        due("shown after " + text, x.count(0), 1);
        due("images after " + text, x.count(1), 1);
    }

    private static void taken(String text, int lines) {
        BackLenses x = sample();
        due("text " + text, told(x, text), lines);
        due("fault of " + text, x.fault(), 0);
    }

    private static void theText() {
        newObject();
        tape();
        textThatIsTaken();
        textWithFaults();
        rulesAndRows();
    }

    private static void newObject() {
        promise = 1;
        BackLenses x = new BackLenses();
        int[] rules = {3, 3, 9, 0, 0, BAD};
        for (int i = 0; i < rules.length; i++) {
            due("rule " + i, x.rule(i), rules[i]);
        }
        for (int c = 0; c < 9; c++) {
            due("mark " + c, x.mark(c, 0) + x.mark(c, 9), 0);
        }
        due("no cell 9", x.mark(9, 0), BAD);
        due("an empty house is seen at once", new BackLenses().sees(0, 0), 1 + 2 + 4 + 8 + 64);
        due("fault", x.fault(), 0);
        due("torn", x.torn(), 0);
        int[] counts = {0, 0, 0, NONE, 10, 0};
        for (int i = 0; i < counts.length; i++) {
            due("count " + i, x.count(i), counts[i]);
        }
        for (int k = 0; k < 4; k++) {
            due("sheet of nothing " + k, x.lay(k, 0, 0), -11);
        }
        due("no image", x.back(0), STATE);
        due("no image", x.back(1), STATE);
        due("nothing is lost between objects", new BackLenses().turn(0, 0, 1), 1);
        due("nothing is shared by objects", x.rule(3), 0);
    }

    private static void tape() {
        promise = 2;
        BackLenses x = new BackLenses();
        due("below 0", x.feed(-1), BAD);
        due("above 127", x.feed(128), BAD);
        due("least", x.feed(LEAST), BAD);
        for (int i = 1; i <= 160; i++) {
            due("byte " + i, x.feed(i % 128), i);
        }
        due("byte 161", x.feed(32), FULL);
        due("BAD is ahead of FULL", x.feed(128), BAD);
        due("it still has", x.count(2), 160);

        promise = 3;
        due("end 161", x.end(161), BAD);
        due("end -1", x.end(-1), BAD);
        due("all of it", x.end(160), 160);
        due("less", x.end(5), 160);
        due("one more", x.end(6), BAD);
        due("nothing", x.end(0), 5);
        due("of nothing", x.end(0), 0);
        due("feed behind", x.feed('x'), 1);
        x = new BackLenses();
        for (char c : "last 3;last 4;".toCharArray()) {
            x.feed(c);
        }
        due("its first seven", x.end(7), 14);
        due("text of them", x.text(), 1);
        due("last", x.rule(2), 3);
    }

    private static void textThatIsTaken() {
        promise = 4;
        taken("", 0);
        taken("   ", 0);
        taken("  house  2   4 ;  last 0 ; ", 2);
        taken("house2 4;last0;cell0 5;turn0 7 5;lens0 0 1 2 3 4 5 6 7;", 5);
        taken("house 04 02;last 09;", 2);
        taken("cell 8 0;last 3;house 3 3;", 3);
        taken("turn 9 15 5;lens 9 15;house 4 4;last 9;", 4);
        taken("turn0 0 0;turn0 0 0;turn0 0 0;turn0 0 0;turn0 0 0;turn0 0 0;turn0 0 0;turn0 0 0;turn0 0 0;turn0 0 0;", 10);
        taken("lens0;lens0;lens0;lens0;lens0;lens0;", 6);
        taken("house 4 4;lens 9 15 14 13 12 11 10 9 8 7 6 5 4 3 2 1 0;", 2);

        BackLenses x = sample();
        x.show(0, 0, 1);
        x.keep(0);
        x.sheet(0, 0, 3);
        due("a text tells all", told(x, "lens 3 0 2;turn 2 1 5;"), 2);
        due("wide at first", x.rule(0), 3);
        due("high at first", x.rule(1), 3);
        due("last at first", x.rule(2), 9);
        due("changes", x.rule(3), 1);
        due("lenses", x.rule(4), 1);
        due("marks at first", x.all(0, 0), 511);
        due("nothing is shown", x.count(0), 0);
        due("images are gone", x.count(1), 0);
        due("image 0 is gone", x.back(0), STATE);
        due("sheets stay", x.count(3), 3);
        due("day of a lens", x.lens(0, 0), 3);
        due("blind cells", x.lens(0, 1), 5);
        due("an empty text", x.text(), 0);
        due("tells all, too", x.rule(3) + x.rule(4), 0);
        x = house("house 2 4;last 0;cell 7 3;turn 0 6 2;");
        due("wide", x.rule(0), 2);
        due("high", x.rule(1), 4);
        due("last", x.rule(2), 0);
        due("cell", x.mark(7, 0), 3);
        due("turn", x.mark(6, 0), 2);
        due("no day 1", x.mark(7, 1), BAD);
    }

    private static void textWithFaults() {
        promise = 5;
        fault("#", 1, 0);
        fault("last 3;\t", 1, 7);
        fault("House 2 2;", 1, 0);
        fault("last 003;", 1, 5);
        fault("last 3;123", 1, 7);
        fault("cell 1 -1;", 1, 7);
        fault("last 3#", 1, 6);
        fault("lens 1 2 100;", 1, 9);
        fault("houses 2 2;", 2, 0);
        fault("hous e 2 2;", 2, 0);
        fault("mouse 2 2;", 2, 0);
        fault("az", 2, 0);
        fault("la", 2, 0);
        fault(" 3;", 2, 1);
        fault(";", 2, 0);
        fault("last 3;;", 2, 7);
        fault("last;", 2, 4);
        fault("last x;", 2, 5);
        fault("last 3 4;", 2, 7);
        fault("last 3 last", 2, 7);
        fault("last 3", 2, 6);
        fault("last 3  ", 2, 8);
        fault("last", 2, 4);
        fault("turn 1 2;", 2, 8);
        fault("lens;", 2, 4);
        fault("lens 1 x;", 2, 7);
        fault("lens 1 2", 2, 8);
        fault("house 5 2;", 3, 6);
        fault("house 2 1;", 3, 8);
        fault("house 1 2;", 3, 6);
        fault("house 2 5;", 3, 8);
        fault("last 10;", 3, 5);
        fault("last 10#", 3, 5);
        fault("cell 16 0;", 3, 5);
        fault("cell 15 6;", 3, 8);
        fault("turn 10 0 0;", 3, 5);
        fault("turn 0 16 0;", 3, 7);
        fault("turn 0 0 6;", 3, 9);
        fault("lens 10;", 3, 5);
        fault("lens 0 16;", 3, 7);
        fault("lens 0 1 16;", 3, 9);
        fault("house 2 2;house 9 9;", 4, 10);
        fault("last 1;last", 4, 7);
        fault("cell 1 0;cell 1 9;", 4, 14);
        fault("cell 1 0;cell 01 0;", 4, 14);
        fault("lens 1 2 3 2;", 4, 11);
        fault("turn0 0 0;turn0 0 0;turn0 0 0;turn0 0 0;turn0 0 0;turn0 0 0;turn0 0 0;turn0 0 0;turn0 0 0;turn0 0 0; turn", 5, 101);
        fault("lens0;lens0;lens0;lens0;lens0;lens0;lens", 5, 36);
        fault("house 2 2;cell 4 0;", 6, 19);
        fault("house 2 2;turn 0 4 0; ", 6, 22);
        fault("house 2 2;lens 0 4;", 6, 19);
        fault("turn 3 0 0;last 2;", 6, 18);
        fault("lens 3;last 2;", 6, 14);
        fault("cell 9 0;last x", 2, 14);
        BackLenses x = new BackLenses();
        due("a fault", told(x, "x"), -10);
        due("stays told", x.fault(), 2);
        due("by all else", x.turn(0, 0, 0), 1);
        due("stays told", x.fault(), 2);
        due("till a text", x.text(), 0);
        due("is taken", x.fault(), 0);
        due("fault 4 is for one text", told(x, "last 1;"), 1);
        due("fault 4 is for one text", told(x, "last 1;"), 1);
    }

    private static void rulesAndRows() {
        promise = 6;
        BackLenses x = sample();
        int[] rules = {4, 3, 5, 5, 3};
        for (int i = 0; i < rules.length; i++) {
            due("rule " + i, x.rule(i), rules[i]);
        }
        due("rule 5", x.rule(5), BAD);
        due("rule -1", x.rule(-1), BAD);

        promise = 7;
        int[] chair = {1, 0, 3, 3, 3, 3};
        int[] curtain = {4, 4, 0, 0, 4, 4};
        for (int d = 0; d < 6; d++) {
            due("mark of 0 on " + d, x.mark(0, d), chair[d]);
            due("mark of 5 on " + d, x.mark(5, d), curtain[d]);
            due("mark of 6 on " + d, x.mark(6, d), 5);
        }
        due("no such cell", x.mark(12, 0), BAD);
        due("no such cell", x.mark(-1, 0), BAD);
        due("no such day", x.mark(0, 6), BAD);
        due("no such day", x.mark(0, -1), BAD);
        x = house("turn 5 0 1;turn 2 0 2;turn 2 0 3;turn 5 0 4;turn 3 0 5;");
        int[] marks = {0, 0, 3, 5, 5, 4, 4, 4, 4, 4};
        for (int d = 0; d < 10; d++) {
            due("the latest day, the last of it: " + d, x.mark(0, d), marks[d]);
        }

        promise = 8;
        x = sample();
        int[][] changes = {{1, 0, 0}, {2, 5, 0}, {2, 0, 3}, {4, 5, 4}, {3, 9, 2}};
        for (int i = 0; i < 5; i++) {
            for (int what = 0; what < 3; what++) {
                due("change " + i, x.change(i, what), changes[i][what]);
            }
        }
        due("no such change", x.change(5, 0), BAD);
        due("no such change", x.change(-1, 0), BAD);
        due("what 3", x.change(0, 3), BAD);
        due("what -1", x.change(0, -1), BAD);

        promise = 9;
        int[][] lenses = {{0, 0}, {2, 2}, {4, 257}};
        for (int l = 0; l < 3; l++) {
            due("day of " + l, x.lens(l, 0), lenses[l][0]);
            due("blind of " + l, x.lens(l, 1), lenses[l][1]);
        }
        due("no such lens", x.lens(3, 0), BAD);
        due("no such lens", x.lens(-1, 0), BAD);
        due("what 2", x.lens(0, 2), BAD);
        due("what -1", x.lens(0, -1), BAD);
    }

    private static void whatIsChanged() {
        promise = 10;
        BackLenses x = sample();
        due("first", x.first(0, 5), 1);
        due("is so", x.first(0, 2), 5);
        due("on day 0", x.mark(0, 0), 2);
        due("changes stay", x.mark(0, 2), 3);
        due("last cell", x.first(11, 5), 0);
        due("no such cell", x.first(12, 0), BAD);
        due("no such cell", x.first(-1, 0), BAD);
        due("no such mark", x.first(0, 6), BAD);
        due("no such mark", x.first(0, NONE), BAD);
        due("nothing is changed", x.mark(0, 0), 2);

        promise = 11;
        due("turn", x.turn(5, 11, 1), 6);
        due("is so", x.mark(11, 5), 1);
        due("not before", x.mark(11, 4), 5);
        due("no such day", x.turn(6, 0, 0), BAD);
        due("no such cell", x.turn(0, 12, 0), BAD);
        due("no such mark", x.turn(0, 0, 6), BAD);
        due("below 0", x.turn(-1, 0, 0) + x.turn(0, -1, 0) + x.turn(0, 0, -1), 3 * BAD);
        for (int i = 7; i <= 10; i++) {
            due("turn " + i, x.turn(0, 0, 0), i);
        }
        due("turn 11", x.turn(0, 0, 0), FULL);
        due("BAD is ahead of FULL", x.turn(6, 0, 0), BAD);
        due("ten", x.rule(3), 10);

        promise = 12;
        due("cut to 11", x.cut(0, 11), BAD);
        due("cut to -1", x.cut(0, -1), BAD);
        due("cut to all", x.cut(0, 10), 10);
        due("cut to 2", x.cut(0, 2), 10);
        due("two", x.rule(3), 2);
        due("the first two", x.change(1, 1), 5);
        due("the rest is gone", x.mark(0, 5), 0);
        due("cut lenses", x.cut(1, 1), 3);
        due("one", x.rule(4), 1);
        due("two lenses of one", x.cut(1, 2), BAD);
        due("what 2", x.cut(2, 0), BAD);
        due("what -1", x.cut(-1, 0), BAD);
        due("cut to none", x.cut(0, 0) * 10 + x.cut(1, 0), 21);
        due("none", x.rule(3) + x.rule(4), 0);

        promise = 13;
        due("grind", x.grind(5, 4095), 1);
        due("day", x.lens(0, 0), 5);
        due("blind", x.lens(0, 1), 4095);
        due("no such day", x.grind(6, 0), BAD);
        due("no such day", x.grind(-1, 0), BAD);
        due("no such cell", x.grind(0, 4096), BAD);
        due("below 0", x.grind(0, -1), BAD);
        due("least", x.grind(0, LEAST), BAD);
        for (int l = 2; l <= 6; l++) {
            due("grind " + l, x.grind(l - 1, 0), l);
        }
        due("grind 7", x.grind(0, 0), FULL);
        due("BAD is ahead of FULL", x.grind(6, 0), BAD);
        BackLenses sixteen = house("house 4 4;");
        due("sixteen blind", sixteen.grind(0, 65535), 1);
        due("a seventeenth", sixteen.grind(0, 65536), BAD);

        promise = 14;
        due("regrind", x.regrind(0, 2), 5);
        due("is so", x.lens(0, 0), 2);
        due("blind stays", x.lens(0, 1), 4095);
        due("regrind the last", x.regrind(5, 0), 5);
        due("is so", x.lens(5, 0), 0);
        due("no such lens", x.regrind(6, 0), BAD);
        due("no such lens", x.regrind(-1, 0), BAD);
        due("no such day", x.regrind(0, 6), BAD);
        due("no such day", x.regrind(0, -1), BAD);
        due("nothing is changed", x.lens(0, 0), 2);

        promise = 15;
        due("crack what is", x.crack(0, 11, true), 1);
        due("mend", x.crack(0, 11, false), 1);
        due("is so", x.lens(0, 1), 2047);
        due("mend again", x.crack(0, 11, false), 0);
        due("crack", x.crack(1, 3, true), 0);
        due("is so", x.lens(1, 1), 8);
        due("day stays", x.lens(1, 0), 1);
        due("no such lens", x.crack(6, 0, true), BAD);
        due("no such lens", x.crack(-1, 0, true), BAD);
        due("no such cell", x.crack(0, 12, true), BAD);
        due("no such cell", x.crack(0, -1, true), BAD);
    }

    private static void looks() {
        promise = 16;
        BackLenses x = sample();
        due("up to and with a curtain", x.sees(4, 0), 305);
        due("past where it was", x.sees(4, 2), 497);
        due("up to and with a door, south", x.sees(2, 0), 79);
        due("up to and with a door, north", x.sees(10, 0), 3904);
        due("past a door, west", x.sees(7, 2), 8 + 16 + 32 + 64 + 128 + 2048);
        due("out of a curtain", x.sees(5, 0), 2 + 16 + 32 + 64 + 128 + 512);
        due("out of a door", x.sees(6, 0), 4 + 32 + 64 + 128 + 1024);
        due("not past a curtain, south", x.sees(1, 0), 15 + 32);
        due("not past a curtain, north", x.sees(9, 0), 32 + 256 + 512 + 1024 + 2048);
        due("not past a curtain, west", x.sees(7, 0), 8 + 32 + 64 + 128 + 2048);
        due("no such cell", x.sees(12, 0), BAD);
        due("no such cell", x.sees(-1, 0), BAD);
        due("no such day", x.sees(0, 6), BAD);
        due("no such day", x.sees(0, -1), BAD);
        BackLenses tall = house("house 2 4;cell 2 5;cell 5 4;");
        due("a door stops the look south", tall.sees(0, 0), 7);
        due("a curtain stops the look south", tall.sees(1, 0), 1 + 2 + 8 + 32);
        due("from the south", tall.sees(7, 0), 32 + 64 + 128);

        promise = 17;
        due("a curtain is shown", x.shows(0, 4, 5), 4);
        due("what is behind is not", x.shows(0, 4, 6), NONE);
        due("by another day", x.shows(1, 4, 6), 5);
        due("blind", x.shows(1, 0, 1), NONE);
        due("its own", x.shows(0, 0, 0), 1);
        due("its own, blind", x.shows(2, 0, 0), NONE);
        due("nothing is shown as 0", x.shows(0, 0, 1), 0);
        due("by its own day", x.shows(2, 9, 9), 2);
        due("by its own day", x.shows(1, 9, 9), 0);
        due("no such lens", x.shows(3, 0, 0), BAD);
        due("no such lens", x.shows(-1, 0, 0), BAD);
        due("no such cell", x.shows(0, 12, 0), BAD);
        due("no such cell", x.shows(0, 0, 12), BAD);
        due("below 0", x.shows(0, -1, 0) + x.shows(0, 0, -1), 2 * BAD);

        promise = 18;
        due("unlike", x.frame(0, 1, 4), 33);
        due("either way", x.frame(1, 0, 4), 33);
        due("but for blind ones", x.frame(1, 2, 4), 32);
        due("both that changed", x.frame(1, 2, 5), 32 + 512);
        due("one is blind", x.frame(0, 2, 4), 0);
        due("one lens", x.frame(1, 1, 4), 0);
        due("no such lens", x.frame(3, 0, 0) + x.frame(0, 3, 0), 2 * BAD);
        due("no such lens", x.frame(-1, 0, 0) + x.frame(0, -1, 0), 2 * BAD);
        due("no such cell", x.frame(0, 1, 12) + x.frame(0, 1, -1), 2 * BAD);

        promise = 19;
        due("between", x.between(0, 5), 513);
        due("back", x.between(5, 0), 513);
        due("one day", x.between(1, 1), 0);
        due("alike", x.between(4, 5), 0);
        due("no such day", x.between(6, 0) + x.between(0, 6), 2 * BAD);
        due("no such day", x.between(-1, 0) + x.between(0, -1), 2 * BAD);

        promise = 20;
        due("curtains", x.all(4, 0), 32);
        due("no curtains", x.all(4, 2), 0);
        due("nothing", x.all(0, 5), 3486);
        due("doors", x.all(5, 5), 64);
        due("no such mark", x.all(6, 0) + x.all(-1, 0), 2 * BAD);
        due("no such day", x.all(0, 6) + x.all(0, -1), 2 * BAD);

        promise = 21;
        due("since", x.since(0, 5, 0), 2);
        due("till", x.since(0, 0, 1), 0);
        due("since with another between", x.since(5, 5, 0), 4);
        due("since", x.since(5, 3, 0), 2);
        due("till", x.since(5, 3, 1), 3);
        due("since the beginning", x.since(6, 3, 0), 0);
        due("till LAST", x.since(6, 3, 1), 5);
        due("no such cell", x.since(12, 0, 0) + x.since(-1, 0, 0), 2 * BAD);
        due("no such day", x.since(0, 6, 0) + x.since(0, -1, 0), 2 * BAD);
        due("what", x.since(0, 0, 2) + x.since(0, 0, -1), 2 * BAD);
        BackLenses same = house("cell 0 2;turn 3 0 2;turn 5 0 1;turn 5 0 2;turn 7 0 1;");
        due("a change to the same is none", same.since(0, 6, 0), 0);
        due("a change to the same is none", same.since(0, 0, 1), 6);

        promise = 22;
        due("again", x.again(), 32);
        due("none again", house("last 0;").again(), 0);
        due("all again", new BackLenses().again(), 1022);
        due("as one long before", house("last 3;turn 1 0 1;turn 2 1 1;turn 3 0 0;turn 3 1 0;").again(), 8);
    }

    private static void ofWhichDay() {
        promise = 23;
        BackLenses x = sample();
        due("not in sight", x.show(4, 6, NONE), 1);
        due("it fits on", x.days(), 51);
        due("a mark", x.show(0, 0, 1), 2);
        due("no such cell", x.show(12, 0, 0) + x.show(0, 12, 0), 2 * BAD);
        due("no such cell", x.show(-1, 0, 0) + x.show(0, -1, 0), 2 * BAD);
        due("no such mark", x.show(0, 0, 6) + x.show(0, 0, -1), 2 * BAD);
        due("no such mark", x.show(0, 0, BAD) + x.show(0, 0, FULL) + x.show(0, 0, -5), 3 * BAD);
        for (int i = 3; i <= 8; i++) {
            due("show " + i, x.show(0, 0, 0), i);
        }
        due("show 9", x.show(0, 0, 0), FULL);
        due("BAD is ahead of FULL", x.show(0, 0, 6), BAD);

        promise = 24;
        due("forget 9", x.forget(9), BAD);
        due("forget -1", x.forget(-1), BAD);
        due("all stay", x.forget(8), 8);
        due("the first two", x.forget(2), 8);
        due("two", x.count(0), 2);
        due("are as they were", x.days(), 1);
        due("the first", x.forget(1), 2);
        due("is as it was", x.days(), 51);
        due("none", x.forget(0), 1);
        due("none", x.forget(0), 0);

        promise = 25;
        due("all fit", x.days(), 63);
        x.show(0, 0, 3);
        due("by a mark", x.days(), 60);
        x.show(4, 6, 5);
        due("and what is in sight", x.days(), 12);
        x.show(4, 7, NONE);
        due("none fits", x.days(), 0);
        x.forget(0);
        x.show(4, 6, 0);
        due("a mark is not NONE", x.days(), 0);

        promise = 26;
        x.forget(0);
        due("nothing is shown", x.lie(), NONE);
        x.show(4, 6, NONE);
        x.show(0, 0, 1);
        due("no lie", x.lie(), NONE);
        x.show(0, 0, 3);
        due("the third", x.lie(), 2);
        x.show(0, 0, 1);
        due("is still the first", x.lie(), 2);
        x.forget(0);
        x.show(0, 5, 0);
        due("the very first", x.lie(), 0);

        lookLikelyCould();
    }

    private static void lookLikelyCould() {
        promise = 27;
        BackLenses x = sample();
        x.show(4, 6, NONE);
        due("where", x.look(0), 0);
        due("two are left", x.look(1), 2);
        x.show(0, 0, 1);
        due("one fits", x.look(0), NONE);
        due("one fits", x.look(1), NONE);
        x.show(0, 0, 3);
        due("none fits", x.look(0), NONE);
        due("what 2", x.look(2), BAD);
        due("what -1", x.look(-1), BAD);
        due("all alike", new BackLenses().look(0), NONE);
        x = house("house 2 2;last 3;turn 2 3 1;turn 1 2 1;turn 3 2 2;");
        due("from 0 at 2: days 0, 1 2, 3", x.look(0), 2);
        due("two at the worst", x.look(1), 2);
        x = house("house 3 2;last 1;turn 1 1 4;");
        due("the first that tells is 1 from 0", x.look(0), 1);
        x = house("house 4 2;last 2;cell 2 3;turn 1 1 4;turn 2 2 2;turn 2 1 0;");
        due("by none in sight, too", x.look(0), 2);
        due("one at the worst", x.look(1), 1);
        x = house("house 4 4;last 1;turn 1 15 1;");
        due("16 times the cell from which", x.look(0), 16 * 3 + 15);

        promise = 28;
        x = sample();
        due("a third of all", x.likely(0, 3, 0), 2);
        due("two thirds", x.likely(0, 3, 1), 3);
        due("never", x.likely(0, 5, 0), 0);
        due("0 is 0 by 1", x.likely(0, 5, 1), 1);
        due("always", x.likely(6, 5, 0), 1);
        due("always", x.likely(6, 5, 1), 1);
        x.show(4, 6, NONE);
        due("of those that fit", x.likely(0, 3, 0), 1);
        due("one half", x.likely(0, 3, 1), 2);
        due("no such cell", x.likely(12, 0, 0) + x.likely(-1, 0, 0), 2 * BAD);
        due("no such mark", x.likely(0, 6, 0) + x.likely(0, NONE, 0), 2 * BAD);
        due("what", x.likely(0, 0, 2) + x.likely(0, 0, -1), 2 * BAD);
        x.show(4, 6, 5);
        due("none fits", x.likely(0, 3, 0), NONE);
        due("none fits", x.likely(0, 3, 1), NONE);
        due("BAD is ahead of NONE", x.likely(0, 0, 2), BAD);

        promise = 29;
        x = sample();
        due("all could", x.could(), 7);
        x.show(0, 0, 3);
        due("those of days 2, 4", x.could(), 6);
        x.show(4, 6, NONE);
        due("that of day 4", x.could(), 4);
        x.forget(0);
        x.show(0, 0, 1);
        x.crack(0, 0, true);
        due("whatever is blind", x.could(), 1);
        due("there are none", new BackLenses().could(), 0);
    }

    private static void places() {
        promise = 30;
        BackLenses x = house("house 3 2;last 2;turn 1 1 4;turn 2 1 0;turn 2 0 0;");
        due("from where the curtain is seen", x.apart(0, 1), 1 + 2 + 4 + 16);
        due("either way", x.apart(1, 0), 23);
        due("alike", x.apart(0, 2), 0);
        due("one day", x.apart(1, 1), 0);
        due("no such day", x.apart(3, 0) + x.apart(0, 3), 2 * BAD);
        due("no such day", x.apart(-1, 0) + x.apart(0, -1), 2 * BAD);
        x = house("house 4 4;last 1;turn 1 5 4;");
        due("row and column of 5", x.apart(0, 1), 0x22f2);
        x = house("house 4 4;last 1;cell 6 4;turn 1 5 4;");
        due("but behind a curtain", x.apart(0, 1), 0x2272);

        promise = 31;
        x = house("house 2 2;last 1;turn 1 0 4;turn 1 0 5;turn 0 3 1;");
        due("one place", x.places(0), 1);
        due("cell 0", x.places(1), 1);
        due("what 2", x.places(2), BAD);
        due("what -1", x.places(-1), BAD);
        due("nothing to tell", new BackLenses().places(0), 0);
        due("nothing to tell", new BackLenses().places(1), 0);
        x = house("house 4 4;last 4;turn 1 0 1;turn 2 5 1;turn 3 10 1;turn 4 15 1;");
        due("two see the four of a diagonal", x.places(0), 2);
        due("the least", x.places(1), 8 + 64);
        x = house("house 4 4;last 2;turn 1 0 1;turn 2 15 1;");
        due("from the corner of both", x.places(1), 8);
        x = house("house 2 2;last 2;turn 1 0 1;turn 2 0 0;");
        due("those that are alike are left out", x.places(0) * 100 + x.places(1), 101);

        promise = 32;
        x = house("house 2 2;last 1;turn 1 0 5;");
        due("guards", x.guard(1, 0), 2);
        due("guards", x.guard(1, 1), 3);
        x = house("house 3 3;last 1;");
        due("three of nine", x.guard(0, 0), 3);
        due("the least", x.guard(0, 1), 7);
        for (int c = 0; c < 9; c++) {
            x.turn(1, c, 4);
        }
        due("all curtains", x.guard(1, 0), 3);
        due("a look goes one cell far", x.guard(1, 1), 8 + 16 + 32);
        due("the other day stays", x.guard(0, 1), 7);
        due("no such day", x.guard(2, 0) + x.guard(-1, 0), 2 * BAD);
        due("what", x.guard(0, 2) + x.guard(0, -1), 2 * BAD);

        promise = 33;
        x = house("house 2 2;last 1;lens 0;lens 1;");
        due("the one across", x.hide(1), 4);
        due("the one across", x.hide(2), 2);
        due("no such cell", x.hide(4) + x.hide(-1), 2 * BAD);
        x.cut(1, 0);
        due("no lenses", x.hide(0), STATE);
        due("BAD is ahead of STATE", x.hide(4), BAD);
        x = sample();
        due("by days 0, 2, 4 none", x.hide(4), 4095 - 497);
        x.cut(1, 1);
        due("by day 0", x.hide(4), 4095 - 305);
        x.crack(0, 5, true);
        due("blind does not hide", x.hide(4), 4095 - 305);
        due("cell 0, too", x.hide(5) & 1, 1);

        promise = 34;
        x = house("house 3 2;last 1;turn 1 1 4;lens 1;");
        due("most", x.best(0), 1);
        due("how many", x.best(1), 4);
        x.grind(0, 0);
        due("the first of several", x.best(0), 0);
        due("how many", x.best(1), 4);
        x.cut(1, 0);
        due("no lenses", x.best(0), STATE);
        due("what", x.best(2) + x.best(-1), 2 * BAD);
        x.grind(0, 63);
        due("none is shown", x.best(0), 0);
        due("none is shown", x.best(1), 0);
        x.grind(0, 62);
        x.grind(0, 61);
        due("each once, by several", x.best(0) * 10 + x.best(1), 2);
        x.grind(0, 31);
        due("where three are", x.best(0) * 10 + x.best(1), 23);
    }

    private static void odds() {
        promise = 35;
        BackLenses x = house("house 2 2;last 1;lens 0;lens 1 0;lens 1;");
        due("three lenses", x.luck(5, 1, 1, 0), 7);
        due("three lenses", x.luck(5, 1, 1, 1), 8);
        due("one is blind", x.luck(5, 1, 0, 0), 3);
        due("one is blind", x.luck(5, 1, 0, 1), 4);
        due("not in sight", x.luck(5, 1, 2, 0), 0);
        due("0 is 0 by 1", x.luck(5, 1, 2, 1), 1);
        due("none breaks", x.luck(0, 1, 1, 0) * 10 + x.luck(0, 1, 1, 1), 11);
        due("all break", x.luck(10, 1, 1, 0) * 10 + x.luck(10, 1, 1, 1), 1);
        due("3 out of ten", x.luck(3, 1, 1, 0), 973);
        due("3 out of ten", x.luck(3, 1, 1, 1), 1000);
        due("odds", x.luck(11, 0, 0, 0) + x.luck(-1, 0, 0, 0), 2 * BAD);
        due("no such cell", x.luck(1, 4, 0, 0) + x.luck(1, 0, 4, 0), 2 * BAD);
        due("no such cell", x.luck(1, -1, 0, 0) + x.luck(1, 0, -1, 0), 2 * BAD);
        due("what", x.luck(1, 0, 0, 2) + x.luck(1, 0, 0, -1), 2 * BAD);
        due("no lenses", new BackLenses().luck(0, 0, 0, 0), 0);
        due("no lenses", new BackLenses().luck(0, 0, 0, 1), 1);
        due("six lenses", house("lens0;lens0;lens0;lens0;lens0;lens0;").luck(9, 0, 0, 0), 468559);
        due("six lenses", house("lens0;lens0;lens0;lens0;lens0;lens0;").luck(9, 0, 0, 1), 1000000);

        promise = 36;
        due("7 by 8 twice, 3 by 4", x.mean(5, 1, 0), 5);
        due("7 by 8 twice, 3 by 4", x.mean(5, 1, 1), 2);
        due("none breaks", x.mean(0, 1, 0) * 10 + x.mean(0, 1, 1), 31);
        due("all break", x.mean(10, 1, 0) * 10 + x.mean(10, 1, 1), 1);
        due("odds", x.mean(11, 0, 0) + x.mean(-1, 0, 0), 2 * BAD);
        due("no such cell", x.mean(1, 4, 0) + x.mean(1, -1, 0), 2 * BAD);
        due("what", x.mean(1, 0, 2) + x.mean(1, 0, -1), 2 * BAD);
        due("no lenses", new BackLenses().mean(0, 0, 0), 0);
        due("no lenses", new BackLenses().mean(0, 0, 1), 1);

        promise = 37;
        // seed 0: 12345 has bits 0; then 3554416254 has 21468: 0 of 9 has 21468 mod 6 = 0.
        BackLenses y = house("cell 0 4;turn 9 0 3;turn 8 1 4;");
        due("before", y.all(0, 9), 511 - 3);
        due("cell 0 is 0", y.drift(0, 1, 0), 511 - 2);
        due("up to the curtain", y.drift(0, 1, 1), 1 + 2 + 8 + 64);
        due("all stays", y.mark(0, 9), 3);
        due("all stays", y.rule(3), 2);
        // seed 1: 1103527590 has 16838, of 9: 8; then 2524885223 has 5758, of 6: 4.
        due("cell 8 is 4", y.drift(1, 1, 0), 511 - 3 - 256);
        due("the house goes on", y.drift(1, 1, 1), 1 + 2 + 8 + 64);
        due("n 0", y.drift(0, 0, 0), BAD);
        due("n 61", y.drift(0, 61, 0), BAD);
        due("n 60", y.drift(0, 60, 0) >= 0 ? 1 : 0, 1);
        due("n below 0", y.drift(0, LEAST, 0), BAD);
        due("what", y.drift(0, 1, 2) + y.drift(0, 1, -1), 2 * BAD);
        for (int i = 0; i < 8; i++) {
            y.turn(9, 0, 3);
        }
        due("however many there are", y.drift(0, 1, 0), 511 - 2);
        // seed -1: 3191464396 has 15929, of 9: 8; then 4293617653 has 32747, of 6: 5.
        due("a seed below 0", y.drift(-1, 1, 0), 511 - 3 - 256);
    }

    private static void imagesAndSheets() {
        promise = 38;
        BackLenses x = sample();
        x.show(0, 0, 1);
        due("none was", x.keep(0), 0);
        due("one was", x.keep(0), 1);
        due("the other", x.keep(1), 0);
        due("no such image", x.keep(2) + x.keep(-1), 2 * BAD);
        x.first(0, 5);
        x.cut(0, 1);
        x.turn(0, 3, 3);
        x.cut(1, 0);
        x.grind(5, 1);
        x.forget(0);
        x.show(1, 1, 0);
        x.show(1, 1, 0);
        due("kept again", x.keep(1), 1);

        promise = 39;
        x.feed('x');
        x.sheet(0, 0, 7);
        due("as image 0", x.back(0), 5);
        due("first", x.mark(0, 0), 1);
        due("changes", x.change(1, 1), 5);
        due("no change of after", x.mark(3, 0), 0);
        due("lenses", x.rule(4), 3);
        due("lens", x.lens(2, 1), 257);
        due("shown", x.count(0), 1);
        due("what was shown", x.days(), 1);
        due("images stay", x.count(1), 2);
        due("the tape stays", x.count(2), 1);
        due("sheets stay", x.count(3), 7);
        due("as image 1", x.back(1), 2);
        due("first", x.mark(0, 0), 5);
        due("lenses", x.rule(4), 1);
        due("shown", x.count(0), 2);
        x.turn(0, 0, 0);
        due("an image is no part of what is", x.back(1), 2);
        due("no such image", x.back(2) + x.back(-1), 2 * BAD);
        due("none", new BackLenses().back(0), STATE);

        sheets();
        reads();
        counts();
    }

    private static void sheets() {
        promise = 40;
        BackLenses x = new BackLenses();
        due("sheet", x.sheet(0, 0, 40), 1);
        due("cells", x.count(3), 40);
        due("above 40", x.sheet(0, 0, 41), BAD);
        due("most", x.sheet(0, 0, MOST), BAD);
        due("below 0", x.sheet(0, 0, -1), -14);
        due("least", x.sheet(0, 0, LEAST), -14);
        due("no such sheet", x.sheet(4, 0, 0) + x.sheet(-1, 0, 0), 2 * BAD);
        due("no such lane", x.sheet(0, 3, 0) + x.sheet(0, -1, 0), 2 * BAD);
        due("BAD is ahead of a fault", x.sheet(4, 0, -1) + x.sheet(0, 3, -1), 2 * BAD);
        due("it stays", x.count(3), 40);
        due("of none", x.sheet(0, 2, 0), 1);
        due("cells", x.count(3), 0);
        x.sheet(3, 2, 3);
        x.lay(3, 0, 9);
        due("a new row", x.sheet(3, 2, 3), 1);
        due("of cells 0", x.read(3, 2, 0, 1), 1);
        due("day 0", x.change(0, 0), 0);

        promise = 41;
        due("nothing", x.lay(1, 0, 0), -11);
        due("nothing is ahead of index", x.lay(1, 99, 0), -11);
        due("no such sheet", x.lay(4, 0, 0) + x.lay(-1, 0, 0), 2 * BAD);
        due("no such cell", x.lay(3, 3, 0), -12);
        due("no such cell", x.lay(3, -1, 0), -12);
        due("no such cell", x.lay(3, LEAST, 0), -12);
        due("none at all", x.lay(0, 0, 0), -12);
        due("lay", x.lay(3, 2, 5), 1);
        due("is so", x.read(3, 2, 0, 1), 1);
        due("mark", x.change(1, 2), 5);
        for (int lane = 0; lane < 3; lane++) {
            x.cut(0, 0);
            x.sheet(2, lane, 3);
            x.lay(2, 0, 256 + 9);
            x.lay(2, 1, 65536 + 8);
            due("the lowest bits in lane " + lane, x.read(2, lane, 0, 1), lane == 0 ? 1 : -20);
            x.lay(2, 0, 9);
            due("the lowest bits in lane " + lane, x.read(2, lane, 0, 1), lane < 2 ? 1 : -20);
            x.lay(2, 0, 255);
            due("a sign in lane " + lane, x.read(2, lane, 0, 1), -20);
            due("torn is as it was", x.torn(), 0);
        }
    }

    private static BackLenses laid(int lane, int cells, int... values) {
        BackLenses x = new BackLenses();
        x.sheet(1, lane, cells);
        for (int i = 0; i < values.length; i++) {
            due("lay " + i, x.lay(1, i, values[i]), 1);
        }
        return x;
    }

    private static void reads() {
        promise = 42;
        for (int lane = 0; lane < 3; lane++) {
            BackLenses x = laid(lane, 10, 9, 8, 5, 1, 2, 3, 4, 5, 0, 7);
            due("three", x.read(1, lane, 0, 3), 3);
            due("day", x.change(1, 0), 1);
            due("cell", x.change(1, 1), 2);
            due("mark", x.change(1, 2), 3);
            due("is so", x.mark(8, 9), 5);
            due("from 3 on", x.read(1, lane, 3, 1), 1);
            due("day", x.change(3, 0), 1);
            due("those that were whole come", x.read(1, lane, 3, 13), 2);
            due("index", x.torn(), 2);
            due("from -1 on", x.read(1, lane, -1, 2), 0);
            due("from the most on", x.read(1, lane, MOST, 13), 0);
            due("from the least on", x.read(1, lane, LEAST, 13), 0);
            due("six came", x.rule(3), 6);
            due("none", x.read(1, lane, 50, 0), 0);
            due("another lane", x.read(1, (lane + 1) % 3, 0, 1), 0);
            due("another lane", x.read(1, (lane + 2) % 3, 0, 1), 0);
            due("nothing", x.read(0, lane, 0, 1), 0);
            due("no such sheet", x.read(4, lane, 0, 1) + x.read(-1, lane, 0, 1), 2 * BAD);
            due("no such lane", x.read(1, 3, 0, 1) + x.read(1, -1, 0, 1), 2 * BAD);
            due("n", x.read(1, lane, 0, 14) + x.read(1, lane, 0, -1), 2 * BAD);
            due("six are", x.rule(3), 6);
        }
        BackLenses x = laid(0, 9, 0, 0, 0, 1, 9, 0, 2);
        due("the second is refused", x.read(1, 0, 0, 3), -21);
        due("none came", x.rule(3), 0);
        due("a fault is met first", x.read(1, 0, 9, 1), 0);
        x = laid(2, 40);
        due("ten", x.read(1, 2, 0, 11), -30);
        due("none came", x.rule(3), 0);
        due("ten", x.read(1, 2, 0, 10), 10);
        due("the eleventh", x.read(1, 2, 0, 1), -20);
        x.cut(0, 8);
        due("full behind two", x.read(1, 2, 0, 3), -22);
        due("full is not met", x.read(1, 2, 34, 3), 2);
        x.cut(0, 0);
        x.sheet(1, 2, 8);
        x.lay(1, 6, 10);
        due("not whole is not refused", x.read(1, 2, 0, 3), 2);

        promise = 43;
        x = laid(1, 6);
        due("none yet", x.torn(), 0);
        x.read(1, 1, 1, 2);
        due("index", x.torn(), 2);
        x.read(1, 0, 0, 1);
        due("cast", x.torn(), 3);
        x.read(0, 0, 0, 1);
        due("nothing", x.torn(), 1);
        x.read(4, 0, 0, 1);
        due("BAD did not come to an end", x.torn(), 1);
        x.lay(1, 0, 10);
        x.read(1, 1, 0, 1);
        due("nor did what turn() refused", x.torn(), 1);
        x.lay(0, 0, 0);
        x.sheet(0, 0, -1);
        due("other faults are not its own", x.torn(), 1);
        x.text();
        due("nor does a text change it", x.torn(), 1);
        x.read(1, 1, 3, 1);
        due("whole", x.torn(), 0);
        x.read(1, 0, 0, 0);
        due("a cast comes ahead of all cells", x.torn(), 3);
        x.read(0, 0, 0, 0);
        due("nothing is met by the first cell", x.torn(), 0);
    }

    private static void counts() {
        promise = 44;
        BackLenses x = sample();
        x.show(4, 6, NONE);
        x.keep(1);
        x.feed('x');
        x.feed('y');
        x.sheet(1, 0, 5);
        due("shown", x.count(0), 1);
        due("images", x.count(1), 1);
        due("tape", x.count(2), 2);
        due("sheet 0", x.count(3), NONE);
        x.sheet(0, 1, 6);
        due("sheet 0", x.count(3), 6);
        due("days that fit", x.count(4), 4);
        due("days of change", x.count(5), 4);
        due("what", x.count(6) + x.count(-1), 2 * BAD);
        x.turn(0, 11, 1);
        due("day 0 has none before", x.count(5), 4);
        x.turn(5, 11, 1);
        due("a change to the same is none", x.count(5), 4);
        x.turn(5, 11, 2);
        due("but this one", x.count(5), 5);
    }
}
