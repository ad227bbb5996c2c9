/** Boundary cases of what is changed: promises 10 to 15, a test for each sentence that names one. */
public final class ChangeEdgesTest extends Edges {
    public static void main(String[] args) {
        run(ChangeEdgesTest.class);
    }

    private static BackLenses tenChanges() {
        BackLenses x = busy();
        for (int i = x.rule(3); i < 10; i++) {
            x.turn(0, 0, 0);
        }
        return x;
    }

    private static BackLenses sixLenses() {
        BackLenses x = busy();
        for (int l = x.rule(4); l < 6; l++) {
            x.grind(l - 2, 1 << l);
        }
        return x;
    }

    // ---- promise 10: first

    static void promise10NoSuchCell() {
        BackLenses x = busy();
        due("first(0, 5)", x.first(0, 5), 0);
        due("first(5, 5)", x.first(5, 5), 0);
        due("first(6, 5)", x.first(6, 5), BAD);
        due("first(-1, 5)", x.first(-1, 5), BAD);
        due("first(least, 5)", x.first(LEAST, 5), BAD);
        due("first(most, 5)", x.first(MOST, 5), BAD);
    }

    static void promise10MarksAre0To5() {
        BackLenses x = busy();
        int was = 2;
        for (int m = 5; m >= 0; m--) {
            due("first(1, " + m + ")", x.first(1, m), was);
            due("mark(1, 0)", x.mark(1, 0), m);
            was = m;
        }
    }

    static void promise10NoSuchMark() {
        BackLenses x = busy();
        due("first(1, 6)", x.first(1, 6), BAD);
        due("first(1, -1)", x.first(1, -1), BAD);
        due("first(1, NONE)", x.first(1, NONE), BAD);
        due("first(1, least)", x.first(1, LEAST), BAD);
        due("first(1, most)", x.first(1, MOST), BAD);
    }

    static void promise10IsNotTheMarkOfDay0() {
        BackLenses x = house("cell 0 1;turn 0 0 2;");
        due("first(0, 5)", x.first(0, 5), 1);
        due("mark(0, 0)", x.mark(0, 0), 2);
        due("first(0, 0)", x.first(0, 0), 5);
    }

    static void promise10HoldsOnlyAheadOfChanges() {
        BackLenses x = house("turn 2 0 3;");
        due("first(0, 1)", x.first(0, 1), 0);
        due("mark(0, 1)", x.mark(0, 1), 1);
        due("mark(0, 2)", x.mark(0, 2), 3);
    }

    static void promise10IsSeenAtOnce() {
        BackLenses x = new BackLenses();
        due("sees(0, 0)", x.sees(0, 0), 79);
        due("first(1, 4)", x.first(1, 4), 0);
        due("sees(0, 0)", x.sees(0, 0), 75);
    }

    static void promise10RefusedChangesNothing() {
        BackLenses x = busy();
        unchanged(x, () -> {
            due("first(6, 1)", x.first(6, 1), BAD);
            due("first(-1, 1)", x.first(-1, 1), BAD);
            due("first(1, 6)", x.first(1, 6), BAD);
            due("first(1, -1)", x.first(1, -1), BAD);
        });
        due("first(1, 2)", x.first(1, 2), 2);
    }

    // ---- promise 11: turn

    static void promise11Day0AndLastAreTaken() {
        BackLenses x = busy();
        due("turn(0, 2, 1)", x.turn(0, 2, 1), 3);
        due("turn(4, 2, 3)", x.turn(4, 2, 3), 4);
        due("mark(2, 0)", x.mark(2, 0), 1);
        due("mark(2, 3)", x.mark(2, 3), 1);
        due("mark(2, 4)", x.mark(2, 4), 3);
    }

    static void promise11NoSuchDay() {
        BackLenses x = busy();
        due("turn(5, 0, 0)", x.turn(5, 0, 0), BAD);
        due("turn(-1, 0, 0)", x.turn(-1, 0, 0), BAD);
        due("turn(least, 0, 0)", x.turn(LEAST, 0, 0), BAD);
        due("turn(most, 0, 0)", x.turn(MOST, 0, 0), BAD);
    }

    static void promise11NoSuchCell() {
        BackLenses x = busy();
        due("turn(0, 5, 0)", x.turn(0, 5, 0), 3);
        due("turn(0, 6, 0)", x.turn(0, 6, 0), BAD);
        due("turn(0, -1, 0)", x.turn(0, -1, 0), BAD);
        due("turn(0, least, 0)", x.turn(0, LEAST, 0), BAD);
        due("turn(0, most, 0)", x.turn(0, MOST, 0), BAD);
    }

    static void promise11NoSuchMark() {
        BackLenses x = busy();
        due("turn(0, 0, 5)", x.turn(0, 0, 5), 3);
        due("turn(0, 0, 6)", x.turn(0, 0, 6), BAD);
        due("turn(0, 0, -1)", x.turn(0, 0, -1), BAD);
        due("turn(0, 0, NONE)", x.turn(0, 0, NONE), BAD);
        due("turn(0, 0, most)", x.turn(0, 0, MOST), BAD);
    }

    static void promise11TenAreTaken() {
        BackLenses x = new BackLenses();
        for (int i = 1; i <= 10; i++) {
            due("turn " + i, x.turn(i - 1, 0, i % 6), i);
        }
        due("change(9, 0)", x.change(9, 0), 9);
        due("rule(3)", x.rule(3), 10);
    }

    static void promise11TheEleventhIsFull() {
        BackLenses x = tenChanges();
        due("turn(0, 0, 0)", x.turn(0, 0, 0), FULL);
        due("rule(3)", x.rule(3), 10);
    }

    static void promise11BadIsAheadOfFull() {
        BackLenses x = tenChanges();
        due("turn(5, 0, 0)", x.turn(5, 0, 0), BAD);
        due("turn(0, 6, 0)", x.turn(0, 6, 0), BAD);
        due("turn(0, 0, 6)", x.turn(0, 0, 6), BAD);
    }

    static void promise11ThereIsRoomAgainBehindCut() {
        BackLenses x = tenChanges();
        x.cut(0, 9);
        due("turn(4, 2, 3)", x.turn(4, 2, 3), 10);
        due("turn(4, 2, 3)", x.turn(4, 2, 3), FULL);
    }

    static void promise11IsSeenAtOnce() {
        BackLenses x = new BackLenses();
        due("sees(0, 3)", x.sees(0, 3), 79);
        due("turn(3, 1, 4)", x.turn(3, 1, 4), 1);
        due("sees(0, 3)", x.sees(0, 3), 75);
        due("sees(0, 2)", x.sees(0, 2), 79);
    }

    static void promise11RefusedChangesNothing() {
        BackLenses x = busy();
        unchanged(x, () -> {
            due("turn(5, 1, 1)", x.turn(5, 1, 1), BAD);
            due("turn(1, 6, 1)", x.turn(1, 6, 1), BAD);
            due("turn(1, 1, 6)", x.turn(1, 1, 6), BAD);
        });
        BackLenses y = tenChanges();
        unchanged(y, () -> due("turn(1, 1, 1)", y.turn(1, 1, 1), FULL));
    }

    // ---- promise 12: cut

    static void promise12WhatIs0Or1() {
        BackLenses x = busy();
        due("cut(2, 0)", x.cut(2, 0), BAD);
        due("cut(-1, 0)", x.cut(-1, 0), BAD);
        due("cut(least, 0)", x.cut(LEAST, 0), BAD);
        due("cut(most, 0)", x.cut(MOST, 0), BAD);
        due("cut(0, 0)", x.cut(0, 0), 2);
        due("cut(1, 0)", x.cut(1, 0), 2);
    }

    static void promise12AllMayStay() {
        BackLenses x = busy();
        unchanged(x, () -> {
            due("cut(0, 2)", x.cut(0, 2), 2);
            due("cut(1, 2)", x.cut(1, 2), 2);
        });
        due("cut(0, 10)", tenChanges().cut(0, 10), 10);
        due("cut(1, 6)", sixLenses().cut(1, 6), 6);
    }

    static void promise12NoneMayStay() {
        BackLenses x = busy();
        due("cut(0, 0)", x.cut(0, 0), 2);
        due("rule(3)", x.rule(3), 0);
        due("rule(4)", x.rule(4), 2);
        due("cut(1, 0)", x.cut(1, 0), 2);
        due("rule(4)", x.rule(4), 0);
        due("cut(0, 0) of none", x.cut(0, 0), 0);
        due("cut(1, 0) of none", x.cut(1, 0), 0);
    }

    static void promise12MoreThanThereAreIsBad() {
        BackLenses x = busy();
        due("cut(0, 3)", x.cut(0, 3), BAD);
        due("cut(1, 3)", x.cut(1, 3), BAD);
        due("cut(0, most)", x.cut(0, MOST), BAD);
        due("cut(1, most)", x.cut(1, MOST), BAD);
        due("cut(0, 11)", tenChanges().cut(0, 11), BAD);
        due("cut(1, 7)", sixLenses().cut(1, 7), BAD);
        due("cut(0, 1) of none", new BackLenses().cut(0, 1), BAD);
        due("cut(1, 1) of none", new BackLenses().cut(1, 1), BAD);
    }

    static void promise12Below0IsBad() {
        BackLenses x = busy();
        due("cut(0, -1)", x.cut(0, -1), BAD);
        due("cut(1, -1)", x.cut(1, -1), BAD);
        due("cut(0, least)", x.cut(0, LEAST), BAD);
        due("cut(1, least)", x.cut(1, LEAST), BAD);
    }

    static void promise12TheFirstStay() {
        BackLenses x = busy();
        due("mark(0, 4)", x.mark(0, 4), 4);
        due("cut(0, 1)", x.cut(0, 1), 2);
        due("change(0, 1)", x.change(0, 1), 5);
        due("mark(5, 3)", x.mark(5, 3), 1);
        due("mark(0, 4)", x.mark(0, 4), 0);
        due("cut(1, 1)", x.cut(1, 1), 2);
        due("lens(0, 1)", x.lens(0, 1), 1);
    }

    static void promise12RefusedChangesNothing() {
        BackLenses x = busy();
        unchanged(x, () -> {
            due("cut(0, 3)", x.cut(0, 3), BAD);
            due("cut(1, 3)", x.cut(1, 3), BAD);
            due("cut(0, -1)", x.cut(0, -1), BAD);
            due("cut(1, -1)", x.cut(1, -1), BAD);
            due("cut(2, 0)", x.cut(2, 0), BAD);
            due("cut(-1, 0)", x.cut(-1, 0), BAD);
        });
    }

    // ---- promise 13: grind

    static void promise13Day0AndLastAreTaken() {
        BackLenses x = busy();
        due("grind(0, 0)", x.grind(0, 0), 3);
        due("grind(4, 0)", x.grind(4, 0), 4);
        due("lens(2, 0)", x.lens(2, 0), 0);
        due("lens(3, 0)", x.lens(3, 0), 4);
    }

    static void promise13NoSuchDay() {
        BackLenses x = busy();
        due("grind(5, 0)", x.grind(5, 0), BAD);
        due("grind(-1, 0)", x.grind(-1, 0), BAD);
        due("grind(least, 0)", x.grind(LEAST, 0), BAD);
        due("grind(most, 0)", x.grind(MOST, 0), BAD);
    }

    static void promise13AllCellsOrNoneMayBeBlind() {
        for (int wide = 2; wide <= 4; wide++) {
            for (int high = 2; high <= 4; high++) {
                BackLenses x = house("house " + wide + " " + high + ";");
                int all = (1 << wide * high) - 1;
                due("none", x.grind(0, 0), 1);
                due("all", x.grind(0, all), 2);
                due("lens(0, 1)", x.lens(0, 1), 0);
                due("lens(1, 1)", x.lens(1, 1), all);
            }
        }
    }

    static void promise13ABlindCellThatThereIsNotIsBad() {
        for (int wide = 2; wide <= 4; wide++) {
            for (int high = 2; high <= 4; high++) {
                BackLenses x = house("house " + wide + " " + high + ";");
                int beyond = 1 << wide * high;
                due("one behind the last", x.grind(0, beyond), BAD);
                due("one behind all", x.grind(0, 2 * beyond - 1), BAD);
            }
        }
        BackLenses x = busy();
        due("bit 31", x.grind(0, LEAST), BAD);
        due("all bits", x.grind(0, -1), BAD);
        due("bit 30", x.grind(0, 1 << 30), BAD);
        due("most", x.grind(0, MOST), BAD);
    }

    static void promise13SixAreTaken() {
        BackLenses x = new BackLenses();
        for (int l = 1; l <= 6; l++) {
            due("grind " + l, x.grind(l, l), l);
        }
        due("lens(5, 0)", x.lens(5, 0), 6);
        due("lens(5, 1)", x.lens(5, 1), 6);
    }

    static void promise13TheSeventhIsFull() {
        BackLenses x = sixLenses();
        due("grind(0, 0)", x.grind(0, 0), FULL);
        due("rule(4)", x.rule(4), 6);
    }

    static void promise13BadIsAheadOfFull() {
        BackLenses x = sixLenses();
        due("grind(5, 0)", x.grind(5, 0), BAD);
        due("grind(0, 64)", x.grind(0, 64), BAD);
    }

    static void promise13ThereIsRoomAgainBehindCut() {
        BackLenses x = sixLenses();
        x.cut(1, 5);
        due("grind(4, 63)", x.grind(4, 63), 6);
        due("grind(4, 63)", x.grind(4, 63), FULL);
    }

    static void promise13RefusedChangesNothing() {
        BackLenses x = busy();
        unchanged(x, () -> {
            due("grind(5, 0)", x.grind(5, 0), BAD);
            due("grind(0, 64)", x.grind(0, 64), BAD);
            due("grind(0, -1)", x.grind(0, -1), BAD);
        });
        BackLenses y = sixLenses();
        unchanged(y, () -> due("grind(0, 0)", y.grind(0, 0), FULL));
    }

    // ---- promise 14: regrind

    static void promise14NoSuchLens() {
        BackLenses x = busy();
        due("regrind(1, 0)", x.regrind(1, 0), 4);
        due("regrind(2, 0)", x.regrind(2, 0), BAD);
        due("regrind(-1, 0)", x.regrind(-1, 0), BAD);
        due("regrind(least, 0)", x.regrind(LEAST, 0), BAD);
        due("regrind(most, 0)", x.regrind(MOST, 0), BAD);
        due("regrind(0, 0) of none", new BackLenses().regrind(0, 0), BAD);
        due("regrind(5, 0) of six", sixLenses().regrind(5, 0), 3);
        due("regrind(6, 0) of six", sixLenses().regrind(6, 0), BAD);
    }

    static void promise14NoSuchDay() {
        BackLenses x = busy();
        due("regrind(0, 4)", x.regrind(0, 4), 2);
        due("regrind(0, 0)", x.regrind(0, 0), 4);
        due("regrind(0, 5)", x.regrind(0, 5), BAD);
        due("regrind(0, -1)", x.regrind(0, -1), BAD);
        due("regrind(0, least)", x.regrind(0, LEAST), BAD);
        due("regrind(0, most)", x.regrind(0, MOST), BAD);
        due("lens(0, 0)", x.lens(0, 0), 0);
    }

    static void promise14BlindCellsAndOtherLensesStay() {
        BackLenses x = busy();
        due("regrind(0, 3)", x.regrind(0, 3), 2);
        due("lens(0, 0)", x.lens(0, 0), 3);
        due("lens(0, 1)", x.lens(0, 1), 1);
        due("lens(1, 0)", x.lens(1, 0), 4);
        due("rule(4)", x.rule(4), 2);
    }

    static void promise14RefusedChangesNothing() {
        BackLenses x = busy();
        unchanged(x, () -> {
            due("regrind(2, 0)", x.regrind(2, 0), BAD);
            due("regrind(-1, 0)", x.regrind(-1, 0), BAD);
            due("regrind(0, 5)", x.regrind(0, 5), BAD);
            due("regrind(0, -1)", x.regrind(0, -1), BAD);
        });
    }

    // ---- promise 15: crack

    static void promise15NoSuchLens() {
        BackLenses x = busy();
        due("crack(1, 0, true)", x.crack(1, 0, true), 0);
        due("crack(2, 0, true)", x.crack(2, 0, true), BAD);
        due("crack(-1, 0, true)", x.crack(-1, 0, true), BAD);
        due("crack(least, 0, true)", x.crack(LEAST, 0, true), BAD);
        due("crack(most, 0, false)", x.crack(MOST, 0, false), BAD);
        due("crack(0, 0, true) of none", new BackLenses().crack(0, 0, true), BAD);
    }

    static void promise15NoSuchCell() {
        BackLenses x = busy();
        due("crack(0, 5, true)", x.crack(0, 5, true), 0);
        due("crack(0, 6, true)", x.crack(0, 6, true), BAD);
        due("crack(0, -1, true)", x.crack(0, -1, true), BAD);
        due("crack(0, 32, true)", x.crack(0, 32, true), BAD);
        due("crack(0, least, true)", x.crack(0, LEAST, true), BAD);
        due("crack(0, most, false)", x.crack(0, MOST, false), BAD);
        due("lens(0, 1)", x.lens(0, 1), 33);
    }

    static void promise15CellsOfTheWidestHouse() {
        BackLenses x = house("house 4 4;lens 0;");
        due("crack(0, 15, true)", x.crack(0, 15, true), 0);
        due("crack(0, 0, true)", x.crack(0, 0, true), 0);
        due("lens(0, 1)", x.lens(0, 1), 32769);
        due("crack(0, 16, true)", x.crack(0, 16, true), BAD);
    }

    static void promise15WhetherItWas() {
        BackLenses x = busy();
        due("is", x.crack(0, 0, true), 1);
        due("lens(0, 1)", x.lens(0, 1), 1);
        due("is no more", x.crack(0, 0, false), 1);
        due("lens(0, 1)", x.lens(0, 1), 0);
        due("is not", x.crack(0, 0, false), 0);
        due("lens(0, 1)", x.lens(0, 1), 0);
        due("becomes", x.crack(0, 0, true), 0);
        due("lens(0, 1)", x.lens(0, 1), 1);
    }

    static void promise15OtherCellsAndLensesStay() {
        BackLenses x = busy();
        x.crack(0, 3, true);
        due("lens(0, 1)", x.lens(0, 1), 9);
        due("lens(0, 0)", x.lens(0, 0), 2);
        due("lens(1, 1)", x.lens(1, 1), 0);
        x.crack(0, 0, false);
        due("lens(0, 1)", x.lens(0, 1), 8);
    }

    static void promise15RefusedChangesNothing() {
        BackLenses x = busy();
        unchanged(x, () -> {
            due("crack(2, 0, true)", x.crack(2, 0, true), BAD);
            due("crack(-1, 0, false)", x.crack(-1, 0, false), BAD);
            due("crack(0, 6, true)", x.crack(0, 6, true), BAD);
            due("crack(0, -1, true)", x.crack(0, -1, true), BAD);
            due("crack(0, 32, false)", x.crack(0, 32, false), BAD);
        });
    }
}
