/** Boundary cases of places: promises 30 to 34, a test for each sentence that names one. */
public final class PlaceEdgesTest extends Edges {
    public static void main(String[] args) {
        run(PlaceEdgesTest.class);
    }

    // ---- promise 30: apart

    static void promise30NoSuchDay() {
        BackLenses x = busy();
        due("apart(0, 4)", x.apart(0, 4), 63);
        due("apart(5, 0)", x.apart(5, 0), BAD);
        due("apart(0, 5)", x.apart(0, 5), BAD);
        due("apart(-1, 0)", x.apart(-1, 0), BAD);
        due("apart(0, -1)", x.apart(0, -1), BAD);
        due("apart(least, 0)", x.apart(LEAST, 0), BAD);
        due("apart(0, most)", x.apart(0, MOST), BAD);
    }

    static void promise30OneDayTwice() {
        BackLenses x = busy();
        for (int d = 0; d <= 4; d++) {
            due("apart(" + d + ", " + d + ")", x.apart(d, d), 0);
        }
    }

    static void promise30DaysThatAreAlike() {
        BackLenses x = busy();
        due("apart(1, 2)", x.apart(1, 2), 0);
        due("apart(3, 4)", x.apart(3, 4), 0);
    }

    static void promise30FromWhereTheChangeIsInSight() {
        BackLenses x = house("house 4 4;last 1;turn 1 5 1;");
        due("apart(0, 1)", x.apart(0, 1), 0x22f2);
        due("apart(1, 0)", x.apart(1, 0), 0x22f2);
    }

    static void promise30NotFromBehindACurtainOrADoor() {
        due("a curtain, east", house("house 4 4;last 1;cell 6 4;turn 1 5 1;").apart(0, 1), 0x2272);
        due("a door, south", house("house 4 4;last 1;cell 9 5;turn 1 5 1;").apart(0, 1), 0x02f2);
        due("a door, east", house("house 4 4;last 1;cell 6 5;turn 1 5 1;").apart(0, 1), 0x22f2);
    }

    static void promise30AllCells() {
        due("apart(0, 1)", house("house 2 2;last 1;turn 1 0 1;turn 1 3 1;").apart(0, 1), 15);
    }

    // ---- promise 31: places

    static void promise31WhatIs0Or1() {
        BackLenses x = busy();
        due("places(2)", x.places(2), BAD);
        due("places(-1)", x.places(-1), BAD);
        due("places(least)", x.places(LEAST), BAD);
        due("places(most)", x.places(MOST), BAD);
    }

    static void promise31OneDayAloneNeedsNone() {
        due("places(0)", house("last 0;").places(0), 0);
        due("places(1)", house("last 0;").places(1), 0);
    }

    static void promise31DaysThatAreAlikeAreLeftOut() {
        due("places(0) of all alike", new BackLenses().places(0), 0);
        due("places(1) of all alike", new BackLenses().places(1), 0);
        BackLenses x = house("last 3;turn 1 0 1;turn 2 0 0;turn 3 0 1;");
        due("places(0) of two pairs alike", x.places(0), 1);
        due("places(1) of two pairs alike", x.places(1), 1);
    }

    static void promise31AnyTwo() {
        // Cell 0 tells days 0 and 1, cell 3 tells 1 and 2; both are seen from 1.
        BackLenses x = house("house 2 2;last 2;turn 1 0 1;turn 2 3 1;");
        due("places(0)", x.places(0), 1);
        due("places(1)", x.places(1), 2);
    }

    static void promise31TheFirstAndTheLastTwo() {
        BackLenses x = house("house 4 4;turn 1 0 1;turn 9 15 1;");
        due("places(0)", x.places(0), 1);
        due("places(1)", x.places(1), 8);
        due("places(1) with the first alone", house("house 4 4;turn 1 15 1;").places(1), 8);
        due("places(1) with the last alone", house("house 4 4;turn 9 15 1;").places(1), 8);
    }

    static void promise31TheLeastSetOfTheFewest() {
        // No cell sees more than two of 0, 5, 10, 15: from 3 one sees 0 and 15, from 6 one sees 5 and 10.
        BackLenses x = house("house 4 4;last 4;turn 1 0 1;turn 2 5 1;turn 3 10 1;turn 4 15 1;");
        due("places(0)", x.places(0), 2);
        due("places(1)", x.places(1), 8 + 64);
    }

    static void promise31AllTenDaysUnlike() {
        // Cells 0 and 1 tell all days up to 8, and are seen from 0; days 8 and 9 need cell 15, too.
        BackLenses x = house("house 4 4;turn1 0 1;turn2 0 2;turn3 0 3;turn4 0 4;turn5 0 5;"
            + "turn6 1 1;turn7 1 2;turn8 1 3;");
        due("places(1)", x.places(1), 1);
        x.turn(9, 15, 1);
        due("places(0)", x.places(0), 1);
        due("places(1)", x.places(1), 8);
    }

    static void promise31TheLeastOfSeveralThatServe() {
        due("cell 3 is seen from 1, 2, 3", house("house 2 2;last 1;turn 1 3 1;").places(1), 2);
        due("cell 0 is seen from 0, 1, 2", house("house 2 2;last 1;turn 1 0 1;").places(1), 1);
    }

    // ---- promise 32: guard

    static void promise32NoSuchDay() {
        BackLenses x = busy();
        due("guard(0, 0)", x.guard(0, 0), 2);
        due("guard(4, 0)", x.guard(4, 0), 2);
        due("guard(5, 0)", x.guard(5, 0), BAD);
        due("guard(-1, 0)", x.guard(-1, 0), BAD);
        due("guard(least, 0)", x.guard(LEAST, 0), BAD);
        due("guard(most, 1)", x.guard(MOST, 1), BAD);
    }

    static void promise32WhatIs0Or1() {
        BackLenses x = busy();
        due("guard(0, 2)", x.guard(0, 2), BAD);
        due("guard(0, -1)", x.guard(0, -1), BAD);
        due("guard(0, most)", x.guard(0, MOST), BAD);
        due("guard(0, least)", x.guard(0, LEAST), BAD);
    }

    static void promise32TheSmallestAndTheWidestHouse() {
        BackLenses small = house("house 2 2;");
        due("guard(0, 0)", small.guard(0, 0), 2);
        due("guard(0, 1)", small.guard(0, 1), 3);
        BackLenses wide = house("house 4 4;");
        due("guard(0, 0)", wide.guard(0, 0), 4);
        due("guard(0, 1)", wide.guard(0, 1), 15);
    }

    static void promise32TheLeastSetOfTheFewest() {
        BackLenses flat = house("house 4 2;");
        due("guard(0, 0)", flat.guard(0, 0), 2);
        due("guard(0, 1)", flat.guard(0, 1), 1 + 16);
        BackLenses high = house("house 2 4;");
        due("guard(0, 0)", high.guard(0, 0), 2);
        due("guard(0, 1)", high.guard(0, 1), 3);
    }

    static void promise32OnTheLastDayOfTheWidestHouse() {
        BackLenses x = house("house 4 4;turn 9 0 4;");
        due("guard(9, 0)", x.guard(9, 0), 4);
        due("guard(9, 1)", x.guard(9, 1), 15);
    }

    static void promise32OnTheDayThatIsAsked() {
        // The door in 2 ends the look south from 0, so that on day 1 another set is the least.
        BackLenses x = house("house 2 4;last 1;turn 1 2 5;");
        due("guard(0, 1)", x.guard(0, 1), 3);
        due("guard(1, 0)", x.guard(1, 0), 2);
        due("guard(1, 1)", x.guard(1, 1), 2 + 4);
    }

    // ---- promise 33: hide

    static void promise33NoSuchCell() {
        BackLenses x = busy();
        due("hide(5)", x.hide(5), 1 + 2);
        due("hide(6)", x.hide(6), BAD);
        due("hide(-1)", x.hide(-1), BAD);
        due("hide(least)", x.hide(LEAST), BAD);
        due("hide(most)", x.hide(MOST), BAD);
    }

    static void promise33NoLensesIsState() {
        due("hide(0)", new BackLenses().hide(0), STATE);
        BackLenses x = busy();
        x.cut(1, 0);
        due("hide(5)", x.hide(5), STATE);
    }

    static void promise33BadIsAheadOfState() {
        due("hide(9)", new BackLenses().hide(9), BAD);
        due("hide(-1)", new BackLenses().hide(-1), BAD);
    }

    static void promise33OneLensIsEnough() {
        BackLenses x = house("house 4 2;last 1;cell 1 4;turn 1 1 0;lens 0;");
        due("hide(0)", x.hide(0), 255 - 1 - 2 - 16);
    }

    static void promise33OnDaysOfLensesAlone() {
        BackLenses x = house("house 4 2;last 1;turn 1 1 4;lens 1;");
        due("hide(0)", x.hide(0), 255 - 1 - 2 - 16);
    }

    static void promise33SixLenses() {
        due("hide(0)", house("house 2 2;lens0;lens0;lens0;lens0;lens0;lens9;").hide(0), 8);
    }

    static void promise33OnNoDayOfALens() {
        BackLenses x = house("house 4 2;last 1;cell 1 4;turn 1 1 0;lens 0;lens 1;");
        due("hide(0)", x.hide(0), 255 - 15 - 16);
    }

    static void promise33WhatIsBlindIsInSight() {
        due("hide(0)", house("house 2 2;lens 0 0 1 2 3;").hide(0), 8);
    }

    static void promise33AllCellsOfTheWidestHouse() {
        due("hide(0)", house("house 4 4;lens 0;").hide(0), 0xffff - 0x111f);
        due("hide(15)", house("house 4 4;lens 0;").hide(15), 0xffff - 0xf888);
    }

    // ---- promise 34: best

    static void promise34WhatIs0Or1() {
        BackLenses x = busy();
        due("best(2)", x.best(2), BAD);
        due("best(-1)", x.best(-1), BAD);
        due("best(least)", x.best(LEAST), BAD);
        due("best(most)", x.best(MOST), BAD);
    }

    static void promise34NoLensesIsState() {
        due("best(0)", new BackLenses().best(0), STATE);
        due("best(1)", new BackLenses().best(1), STATE);
    }

    static void promise34BadIsAheadOfState() {
        due("best(2)", new BackLenses().best(2), BAD);
        due("best(-1)", new BackLenses().best(-1), BAD);
    }

    static void promise34OfSeveralTheFirst() {
        BackLenses x = house("lens 0;");
        due("best(0)", x.best(0), 0);
        due("best(1)", x.best(1), 5);
    }

    static void promise34TheLastCell() {
        BackLenses x = house("house 2 2;lens 0 0;");
        due("best(0)", x.best(0), 3);
        due("best(1)", x.best(1), 3);
    }

    static void promise34OnTheLastDayOfTheWidestHouse() {
        BackLenses x = house("house 4 4;lens 9;");
        due("best(0)", x.best(0), 0);
        due("best(1)", x.best(1), 7);
    }

    static void promise34NoneIsShown() {
        BackLenses x = house("house 2 2;lens 0 0 1 2 3;");
        due("best(0)", x.best(0), 0);
        due("best(1)", x.best(1), 0);
    }

    static void promise34ByAllTogetherEachOnce() {
        BackLenses x = house("house 2 2;lens 0 0 1;lens 0 1 2;lens 0 0 1;");
        due("best(0)", x.best(0), 2);
        due("best(1)", x.best(1), 3);
    }
}
