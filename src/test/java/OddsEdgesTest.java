/** Boundary cases of odds and of the seed: promises 35 to 37, a test for each sentence that names one. */
public final class OddsEdgesTest extends Edges {
    private static final String SIX_LENSES = "lens0;".repeat(6);

    public static void main(String[] args) {
        run(OddsEdgesTest.class);
    }

    private static void luckIs(BackLenses x, int v, int c, long top, long below) {
        due("luck(" + v + ", 0, " + c + ", 0)", x.luck(v, 0, c, 0), top);
        due("luck(" + v + ", 0, " + c + ", 1)", x.luck(v, 0, c, 1), below);
    }

    private static void meanIs(BackLenses x, int v, int cell, long top, long below) {
        due("mean(" + v + ", " + cell + ", 0)", x.mean(v, cell, 0), top);
        due("mean(" + v + ", " + cell + ", 1)", x.mean(v, cell, 1), below);
    }

    // ---- promise 35: luck

    static void promise35OddsAre0To10() {
        BackLenses x = busy();
        for (int v = 0; v <= 10; v++) {
            due("luck(" + v + ", 0, 0, 1)", x.luck(v, 0, 0, 1) > 0 ? 1 : 0, 1);
        }
        due("luck(11, 0, 0, 0)", x.luck(11, 0, 0, 0), BAD);
        due("luck(-1, 0, 0, 0)", x.luck(-1, 0, 0, 0), BAD);
        due("luck(least, 0, 0, 1)", x.luck(LEAST, 0, 0, 1), BAD);
        due("luck(most, 0, 0, 1)", x.luck(MOST, 0, 0, 1), BAD);
    }

    static void promise35NoSuchCell() {
        BackLenses x = busy();
        due("luck(0, 5, 5, 0)", x.luck(0, 5, 5, 0), 1);
        due("luck(0, 6, 5, 0)", x.luck(0, 6, 5, 0), BAD);
        due("luck(0, 5, 6, 0)", x.luck(0, 5, 6, 0), BAD);
        due("luck(0, -1, 5, 0)", x.luck(0, -1, 5, 0), BAD);
        due("luck(0, 5, -1, 0)", x.luck(0, 5, -1, 0), BAD);
        due("luck(0, least, 5, 1)", x.luck(0, LEAST, 5, 1), BAD);
        due("luck(0, 5, most, 1)", x.luck(0, 5, MOST, 1), BAD);
        due("luck(0, 5, 37, 1)", x.luck(0, 5, 37, 1), BAD);
    }

    static void promise35WhatIs0Or1() {
        BackLenses x = busy();
        due("luck(0, 0, 0, 2)", x.luck(0, 0, 0, 2), BAD);
        due("luck(0, 0, 0, -1)", x.luck(0, 0, 0, -1), BAD);
        due("luck(0, 0, 0, least)", x.luck(0, 0, 0, LEAST), BAD);
        due("luck(0, 0, 0, most)", x.luck(0, 0, 0, MOST), BAD);
    }

    static void promise35NoneBreaks() {
        luckIs(house("lens 0;"), 0, 0, 1, 1);
        luckIs(house(SIX_LENSES), 0, 0, 1, 1);
    }

    static void promise35AllBreak() {
        luckIs(house("lens 0;"), 10, 0, 0, 1);
        luckIs(house(SIX_LENSES), 10, 0, 0, 1);
    }

    static void promise35NoLensesIs0By1() {
        luckIs(new BackLenses(), 0, 0, 0, 1);
        luckIs(new BackLenses(), 5, 0, 0, 1);
    }

    static void promise35NotShownIs0By1() {
        luckIs(house("lens 0;"), 0, 4, 0, 1);
        luckIs(house("lens 0 1;"), 0, 1, 0, 1);
    }

    static void promise35OneLens() {
        BackLenses x = house("lens 0;");
        long[][] due = {{1, 1}, {9, 10}, {4, 5}, {7, 10}, {3, 5}, {1, 2}, {2, 5}, {3, 10}, {1, 5}, {1, 10}, {0, 1}};
        for (int v = 0; v <= 10; v++) {
            luckIs(x, v, 0, due[v][0], due[v][1]);
        }
    }

    static void promise35SixLenses() {
        BackLenses x = house(SIX_LENSES);
        luckIs(x, 1, 0, 999999, 1000000);
        luckIs(x, 9, 0, 1000000 - 531441, 1000000);
        luckIs(x, 5, 0, 63, 64);
        luckIs(x, 2, 0, 15624, 15625);
    }

    static void promise35OnlyLensesThatShowItCount() {
        BackLenses x = house("house 3 2;last 1;turn 1 1 4;lens 0;lens 1;lens 0 2;");
        luckIs(x, 5, 0, 7, 8);
        luckIs(x, 5, 2, 1, 2);
    }

    // ---- promise 36: mean

    static void promise36OddsAre0To10() {
        BackLenses x = busy();
        for (int v = 0; v <= 10; v++) {
            due("mean(" + v + ", 0, 1)", x.mean(v, 0, 1) > 0 ? 1 : 0, 1);
        }
        due("mean(11, 0, 0)", x.mean(11, 0, 0), BAD);
        due("mean(-1, 0, 0)", x.mean(-1, 0, 0), BAD);
        due("mean(least, 0, 1)", x.mean(LEAST, 0, 1), BAD);
        due("mean(most, 0, 1)", x.mean(MOST, 0, 1), BAD);
    }

    static void promise36NoSuchCell() {
        BackLenses x = busy();
        due("mean(0, 5, 0)", x.mean(0, 5, 0), 4);
        due("mean(0, 6, 0)", x.mean(0, 6, 0), BAD);
        due("mean(0, -1, 0)", x.mean(0, -1, 0), BAD);
        due("mean(0, least, 1)", x.mean(0, LEAST, 1), BAD);
        due("mean(0, most, 1)", x.mean(0, MOST, 1), BAD);
    }

    static void promise36WhatIs0Or1() {
        BackLenses x = busy();
        due("mean(0, 0, 2)", x.mean(0, 0, 2), BAD);
        due("mean(0, 0, -1)", x.mean(0, 0, -1), BAD);
        due("mean(0, 0, least)", x.mean(0, 0, LEAST), BAD);
        due("mean(0, 0, most)", x.mean(0, 0, MOST), BAD);
    }

    static void promise36NoneBreaksEachOnce() {
        meanIs(house("lens 0;"), 0, 4, 5, 1);
        meanIs(house(SIX_LENSES), 0, 4, 5, 1);
        meanIs(house("house 4 4;lens 0;"), 0, 15, 7, 1);
    }

    static void promise36AllBreak() {
        meanIs(house(SIX_LENSES), 10, 4, 0, 1);
    }

    static void promise36NoLensesIs0By1() {
        meanIs(new BackLenses(), 0, 0, 0, 1);
        meanIs(new BackLenses(), 10, 0, 0, 1);
    }

    static void promise36AllBlindIs0By1() {
        meanIs(house("house 2 2;lens 0 0 1 2 3;"), 0, 0, 0, 1);
    }

    static void promise36IsInLowestTerms() {
        // Five cells by 9 out of ten; by 5 out of ten.
        meanIs(house("lens 0;"), 1, 4, 9, 2);
        meanIs(house("lens 0;"), 5, 4, 5, 2);
        meanIs(house("lens 0;"), 6, 4, 2, 1);
    }

    static void promise36CellsThatAreShownByFewerLensesCountLess() {
        // Cells 0, 1 and 3 by 3 by 4, cell 2 by 1 by 2.
        BackLenses x = house("house 3 2;last 1;turn 1 1 4;lens 0;lens 1;");
        meanIs(x, 5, 0, 11, 4);
    }

    static void promise36SixLenses() {
        meanIs(house("house 4 4;" + SIX_LENSES), 9, 0, 7 * (1000000 - 531441), 1000000);
    }

    // ---- promise 37: drift

    static void promise37From1To60() {
        BackLenses x = new BackLenses();
        due("drift(1, 1, 0)", x.drift(1, 1, 0), 255);
        due("drift(1, 60, 0)", x.drift(1, 60, 0), 2);
        due("drift(1, 60, 1)", x.drift(1, 60, 1), 15);
        due("drift(1, 0, 0)", x.drift(1, 0, 0), BAD);
        due("drift(1, 61, 0)", x.drift(1, 61, 0), BAD);
        due("drift(1, -1, 0)", x.drift(1, -1, 0), BAD);
        due("drift(1, least, 1)", x.drift(1, LEAST, 1), BAD);
        due("drift(1, most, 1)", x.drift(1, MOST, 1), BAD);
    }

    static void promise37WhatIs0Or1() {
        BackLenses x = busy();
        due("drift(1, 1, 2)", x.drift(1, 1, 2), BAD);
        due("drift(1, 1, -1)", x.drift(1, 1, -1), BAD);
        due("drift(1, 1, least)", x.drift(1, 1, LEAST), BAD);
        due("drift(1, 1, most)", x.drift(1, 1, MOST), BAD);
    }

    static void promise37AnySeed() {
        BackLenses x = new BackLenses();
        int[] seeds = {0, 5, 12345, -1, MOST, LEAST};
        int[] one = {511, 383, 503, 255, 255, 511};
        int[] sixty = {0, 0, 294, 136, 136, 0};
        int[] sight = {15, 15, 79, 79, 79, 15};
        for (int i = 0; i < seeds.length; i++) {
            due("drift(" + seeds[i] + ", 1, 0)", x.drift(seeds[i], 1, 0), one[i]);
            due("drift(" + seeds[i] + ", 60, 0)", x.drift(seeds[i], 60, 0), sixty[i]);
            due("drift(" + seeds[i] + ", 60, 1)", x.drift(seeds[i], 60, 1), sight[i]);
        }
    }

    static void promise37Bit31IsLeftOut() {
        // The first number of seed 2 has bit 31: with it, cell 7 and not 8 would have a door.
        due("drift(2, 1, 0)", new BackLenses().drift(2, 1, 0), 511 - 256);
        // The second number of seed 1 has bit 31: with it, cell 8 would have nothing and not a curtain.
        due("drift(1, 1, 0)", new BackLenses().drift(1, 1, 0), 511 - 256);
    }

    static void promise37ByTheCellsThereAre() {
        due("two by two", house("house 2 2;").drift(1, 60, 0), 8);
        due("four by four", house("house 4 4;").drift(1, 60, 0), 8216);
        due("four by four", house("house 4 4;").drift(1, 60, 1), 4371);
    }

    static void promise37OnTheLastDay() {
        // Seed 0 puts nothing in cell 0: all else is as on the last day.
        BackLenses x = house("last 4;cell 0 1;cell 1 1;turn 4 1 4;turn 3 2 2;");
        due("drift(0, 1, 0)", x.drift(0, 1, 0), 511 - 2 - 4);
        due("drift(0, 1, 1)", x.drift(0, 1, 1), 1 + 2 + 8 + 64);
    }

    static void promise37OneBehindTheOther() {
        // Two by two, seed 6: cell 2 has a chest, then nothing, then a chair.
        BackLenses x = house("house 2 2;");
        due("drift(6, 1, 0)", x.drift(6, 1, 0), 11);
        due("drift(6, 2, 0)", x.drift(6, 2, 0), 15);
        due("drift(6, 3, 0)", x.drift(6, 3, 0), 11);
    }

    static void promise37HoweverManyChangesThereAre() {
        BackLenses x = house("turn0 0 5;".repeat(10));
        due("drift(1, 60, 0)", x.drift(1, 60, 0), 2);
        due("rule(3)", x.rule(3), 10);
    }

    static void promise37IsByItself() {
        BackLenses x = busy();
        unchanged(x, () -> {
            x.drift(1, 60, 0);
            x.drift(3, 60, 1);
        });
        due("sees(0, 4)", x.sees(0, 4), 15);
    }
}
