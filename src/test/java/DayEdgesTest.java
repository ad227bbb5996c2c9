/** Boundary cases of which day a lens is: promises 23 to 29, a test for each sentence that names one. */
public final class DayEdgesTest extends Edges {
    public static void main(String[] args) {
        run(DayEdgesTest.class);
    }

    private static BackLenses eightShown() {
        BackLenses x = busy();
        for (int i = x.count(0); i < 8; i++) {
            x.show(1, 1, 2);
        }
        return x;
    }

    // ---- promise 23: show

    static void promise23NoSuchCell() {
        BackLenses x = busy();
        due("show(5, 0, 0)", x.show(5, 0, 0), 2);
        due("show(0, 5, 0)", x.show(0, 5, 0), 3);
        due("show(6, 0, 0)", x.show(6, 0, 0), BAD);
        due("show(0, 6, 0)", x.show(0, 6, 0), BAD);
        due("show(-1, 0, 0)", x.show(-1, 0, 0), BAD);
        due("show(0, -1, 0)", x.show(0, -1, 0), BAD);
        due("show(least, 0, 0)", x.show(LEAST, 0, 0), BAD);
        due("show(0, most, 0)", x.show(0, MOST, 0), BAD);
    }

    static void promise23MarksAre0To5() {
        for (int m = 0; m <= 5; m++) {
            BackLenses x = house("last 5;turn 1 0 1;turn 2 0 2;turn 3 0 3;turn 4 0 4;turn 5 0 5;");
            due("show(0, 0, " + m + ")", x.show(0, 0, m), 1);
            due("days()", x.days(), 1 << m);
        }
    }

    static void promise23NoSuchMark() {
        BackLenses x = busy();
        int[] none = {6, -1, -2, -3, -5, LEAST, MOST};
        for (int m : none) {
            due("show(0, 0, " + m + ")", x.show(0, 0, m), BAD);
        }
        due("count(0)", x.count(0), 1);
    }

    static void promise23MarkNoneIsNotInSight() {
        BackLenses x = house("house 3 2;last 2;turn 1 1 4;");
        due("show(0, 2, NONE)", x.show(0, 2, NONE), 1);
        due("days()", x.days(), 2 + 4);
    }

    static void promise23EightAreTaken() {
        BackLenses x = new BackLenses();
        for (int i = 1; i <= 8; i++) {
            due("show " + i, x.show(0, 0, 0), i);
        }
        due("count(0)", x.count(0), 8);
    }

    static void promise23TheNinthIsFull() {
        BackLenses x = eightShown();
        due("show(0, 0, 0)", x.show(0, 0, 0), FULL);
        due("show(0, 0, NONE)", x.show(0, 0, NONE), FULL);
        due("count(0)", x.count(0), 8);
    }

    static void promise23BadIsAheadOfFull() {
        BackLenses x = eightShown();
        due("show(6, 0, 0)", x.show(6, 0, 0), BAD);
        due("show(0, 6, 0)", x.show(0, 6, 0), BAD);
        due("show(0, 0, 6)", x.show(0, 0, 6), BAD);
    }

    static void promise23ThereIsRoomAgainBehindForget() {
        BackLenses x = eightShown();
        x.forget(7);
        due("show(0, 0, 0)", x.show(0, 0, 0), 8);
        due("show(0, 0, 0)", x.show(0, 0, 0), FULL);
    }

    static void promise23RefusedChangesNothing() {
        BackLenses x = busy();
        unchanged(x, () -> {
            due("show(6, 0, 0)", x.show(6, 0, 0), BAD);
            due("show(0, 6, 0)", x.show(0, 6, 0), BAD);
            due("show(0, 0, 6)", x.show(0, 0, 6), BAD);
        });
        BackLenses y = eightShown();
        unchanged(y, () -> due("show(0, 0, 5)", y.show(0, 0, 5), FULL));
    }

    // ---- promise 24: forget

    static void promise24AllMayStay() {
        BackLenses x = eightShown();
        unchanged(x, () -> due("forget(8)", x.forget(8), 8));
    }

    static void promise24NoneMayStay() {
        BackLenses x = eightShown();
        due("forget(0)", x.forget(0), 8);
        due("count(0)", x.count(0), 0);
        due("forget(0) of none", x.forget(0), 0);
    }

    static void promise24MoreThanThereAreIsBad() {
        due("forget(1) of none", new BackLenses().forget(1), BAD);
        due("forget(2) of one", busy().forget(2), BAD);
        due("forget(9) of eight", eightShown().forget(9), BAD);
        due("forget(most)", eightShown().forget(MOST), BAD);
    }

    static void promise24Below0IsBad() {
        due("forget(-1)", eightShown().forget(-1), BAD);
        due("forget(least)", eightShown().forget(LEAST), BAD);
        due("forget(-1) of none", new BackLenses().forget(-1), BAD);
    }

    static void promise24TheFirstStay() {
        BackLenses x = house("last 3;turn 1 0 1;turn 2 1 1;turn 3 2 1;");
        x.show(0, 0, 1);
        x.show(0, 1, 1);
        x.show(0, 2, 1);
        due("days()", x.days(), 8);
        due("forget(2)", x.forget(2), 3);
        due("days()", x.days(), 4 + 8);
        due("forget(1)", x.forget(1), 2);
        due("days()", x.days(), 2 + 4 + 8);
    }

    static void promise24RefusedChangesNothing() {
        BackLenses x = busy();
        unchanged(x, () -> {
            due("forget(2)", x.forget(2), BAD);
            due("forget(-1)", x.forget(-1), BAD);
        });
    }

    // ---- promise 25: days

    static void promise25WithNothingShownAllFit() {
        due("days() to LAST 9", new BackLenses().days(), 1023);
        due("days() to LAST 0", house("last 0;").days(), 1);
        due("days() to LAST 4", house("last 4;").days(), 31);
    }

    static void promise25NoneFits() {
        BackLenses x = new BackLenses();
        x.show(0, 0, 1);
        due("days()", x.days(), 0);
    }

    static void promise25AMarkThatIsNotInSightDoesNotFit() {
        BackLenses x = new BackLenses();
        x.show(0, 4, 0);
        due("days()", x.days(), 0);
    }

    static void promise25WhatIsInSightIsNotNone() {
        BackLenses x = new BackLenses();
        x.show(0, 1, NONE);
        due("days()", x.days(), 0);
    }

    static void promise25AllEightCount() {
        BackLenses x = house("last 1;turn 1 8 1;");
        for (int i = 0; i < 7; i++) {
            x.show(0, 0, 0);
        }
        due("days()", x.days(), 3);
        x.show(8, 8, 1);
        due("days()", x.days(), 2);
    }

    static void promise25GoesWithWhatIsChanged() {
        BackLenses x = house("last 2;");
        x.show(0, 0, 1);
        due("days()", x.days(), 0);
        x.turn(1, 0, 1);
        due("days()", x.days(), 6);
        x.first(0, 1);
        due("days()", x.days(), 7);
        x.cut(0, 0);
        x.first(0, 0);
        due("days()", x.days(), 0);
    }

    // ---- promise 26: lie

    static void promise26NothingShownIsNone() {
        due("lie()", new BackLenses().lie(), NONE);
        due("lie() on one day", house("last 0;").lie(), NONE);
    }

    static void promise26AllFitIsNone() {
        BackLenses x = new BackLenses();
        for (int i = 0; i < 8; i++) {
            x.show(0, 0, 0);
        }
        due("lie()", x.lie(), NONE);
    }

    static void promise26TheVeryFirstIs0() {
        BackLenses x = new BackLenses();
        x.show(0, 0, 1);
        due("lie()", x.lie(), 0);
        x.show(0, 0, 0);
        x.show(0, 0, 2);
        due("lie()", x.lie(), 0);
    }

    static void promise26TheEighthIs7() {
        BackLenses x = new BackLenses();
        for (int i = 0; i < 7; i++) {
            x.show(0, 0, 0);
        }
        due("lie()", x.lie(), NONE);
        x.show(0, 0, 1);
        due("lie()", x.lie(), 7);
    }

    static void promise26ByItAndThoseAheadOfIt() {
        BackLenses x = house("last 1;turn 1 0 1;");
        x.show(0, 0, 0);
        due("lie()", x.lie(), NONE);
        x.show(0, 0, 1);
        due("lie()", x.lie(), 1);
    }

    // ---- promise 27: look

    static void promise27WhatIs0Or1() {
        BackLenses x = busy();
        due("look(2)", x.look(2), BAD);
        due("look(-1)", x.look(-1), BAD);
        due("look(least)", x.look(LEAST), BAD);
        due("look(most)", x.look(MOST), BAD);
    }

    static void promise27AllAlikeIsNone() {
        due("look(0)", new BackLenses().look(0), NONE);
        due("look(1)", new BackLenses().look(1), NONE);
    }

    static void promise27OneDayIsNone() {
        due("look(0) to LAST 0", house("last 0;").look(0), NONE);
        due("look(1) to LAST 0", house("last 0;").look(1), NONE);
        BackLenses x = house("last 1;turn 1 0 1;");
        due("look(0)", x.look(0), 0);
        x.show(0, 0, 1);
        due("look(0) when one fits", x.look(0), NONE);
        due("look(1) when one fits", x.look(1), NONE);
    }

    static void promise27NoDayThatFitsIsNone() {
        BackLenses x = house("last 1;turn 1 0 1;");
        x.show(0, 0, 5);
        due("look(0)", x.look(0), NONE);
        due("look(1)", x.look(1), NONE);
    }

    static void promise27BadIsAheadOfNone() {
        due("look(2)", new BackLenses().look(2), BAD);
        due("look(-1)", new BackLenses().look(-1), BAD);
    }

    static void promise27OfSeveralTheLeast() {
        BackLenses x = house("house 4 4;last 1;turn 1 15 1;");
        due("look(0)", x.look(0), 16 * 3 + 15);
        due("look(1)", x.look(1), 1);
        due("from 0 at 0", house("last 1;turn 1 0 1;").look(0), 0);
    }

    static void promise27FewestAtTheWorst() {
        // Cell 0 leaves day 0 or three days; cell 3 leaves two and two, and is first seen from cell 1.
        BackLenses x = house("house 2 2;last 3;turn 1 0 1;turn 2 3 1;");
        due("look(0)", x.look(0), 16 + 3);
        due("look(1)", x.look(1), 2);
    }

    static void promise27ByNoneInSightToo() {
        // From 0 at 2: a chest, none in sight, a clock.
        BackLenses x = house("house 4 2;last 2;cell 2 3;turn 1 1 4;turn 2 2 2;turn 2 1 0;");
        due("look(0)", x.look(0), 2);
        due("look(1)", x.look(1), 1);
    }

    static void promise27OnlyDaysThatFitCount() {
        BackLenses x = house("last 3;turn 1 0 1;turn 2 1 1;turn 3 2 1;");
        due("look(0)", x.look(0), 1);
        due("look(1)", x.look(1), 2);
        x.show(1, 1, 1);
        due("look(0)", x.look(0), 2);
        due("look(1)", x.look(1), 1);
    }

    static void promise27InTheWidestHouseOnAllDays() {
        BackLenses x = house("house 4 4;turn 9 15 1;");
        due("look(0)", x.look(0), 16 * 3 + 15);
        due("look(1)", x.look(1), 9);
        due("look(0) of all alike", house("house 4 4;").look(0), NONE);
    }

    static void promise27FewerByOneIsFewer() {
        BackLenses x = house("turn 9 0 1;");
        due("look(0)", x.look(0), 0);
        due("look(1)", x.look(1), 9);
    }

    // ---- promise 28: likely

    static void promise28NoSuchCell() {
        BackLenses x = busy();
        due("likely(5, 1, 0)", x.likely(5, 1, 0), 2);
        due("likely(5, 1, 1)", x.likely(5, 1, 1), 5);
        due("likely(6, 1, 0)", x.likely(6, 1, 0), BAD);
        due("likely(-1, 1, 0)", x.likely(-1, 1, 0), BAD);
        due("likely(least, 1, 1)", x.likely(LEAST, 1, 1), BAD);
        due("likely(most, 1, 1)", x.likely(MOST, 1, 1), BAD);
    }

    static void promise28NoSuchMark() {
        BackLenses x = busy();
        due("likely(0, 5, 0)", x.likely(0, 5, 0), 0);
        due("likely(0, 6, 0)", x.likely(0, 6, 0), BAD);
        due("likely(0, -1, 0)", x.likely(0, -1, 0), BAD);
        due("likely(0, NONE, 0)", x.likely(0, NONE, 0), BAD);
        due("likely(0, least, 0)", x.likely(0, LEAST, 0), BAD);
        due("likely(0, most, 0)", x.likely(0, MOST, 0), BAD);
    }

    static void promise28WhatIs0Or1() {
        BackLenses x = busy();
        due("likely(0, 0, 2)", x.likely(0, 0, 2), BAD);
        due("likely(0, 0, -1)", x.likely(0, 0, -1), BAD);
        due("likely(0, 0, most)", x.likely(0, 0, MOST), BAD);
    }

    static void promise28NoDayFitsIsNone() {
        BackLenses x = busy();
        x.show(1, 1, 0);
        due("likely(0, 0, 0)", x.likely(0, 0, 0), NONE);
        due("likely(0, 0, 1)", x.likely(0, 0, 1), NONE);
    }

    static void promise28BadIsAheadOfNone() {
        BackLenses x = busy();
        x.show(1, 1, 0);
        due("likely(6, 0, 0)", x.likely(6, 0, 0), BAD);
        due("likely(0, 6, 0)", x.likely(0, 6, 0), BAD);
        due("likely(0, 0, 2)", x.likely(0, 0, 2), BAD);
    }

    static void promise28NeverIs0By1() {
        due("likely(0, 5, 0)", new BackLenses().likely(0, 5, 0), 0);
        due("likely(0, 5, 1)", new BackLenses().likely(0, 5, 1), 1);
    }

    static void promise28AlwaysIs1By1() {
        due("likely(0, 0, 0)", new BackLenses().likely(0, 0, 0), 1);
        due("likely(0, 0, 1)", new BackLenses().likely(0, 0, 1), 1);
    }

    static void promise28OnlyDaysThatFitCount() {
        // Cell 0 has a chair on days 2 and 3, but day 3 does not fit.
        BackLenses x = house("last 3;turn 2 0 1;turn 3 1 1;");
        x.show(1, 1, 0);
        due("likely(0, 1, 0)", x.likely(0, 1, 0), 1);
        due("likely(0, 1, 1)", x.likely(0, 1, 1), 3);
    }

    static void promise28IsInLowestTerms() {
        for (int d = 1; d <= 9; d++) {
            BackLenses x = house("turn " + d + " 0 1;");
            int with = 10 - d;
            int by = with % 5 == 0 ? 5 : with % 2 == 0 ? 2 : 1;
            due("likely(0, 1, 0) from day " + d, x.likely(0, 1, 0), with / by);
            due("likely(0, 1, 1) from day " + d, x.likely(0, 1, 1), 10 / by);
        }
    }

    // ---- promise 29: could

    static void promise29NoLensesAre0() {
        due("could()", new BackLenses().could(), 0);
    }

    static void promise29NoDayFitsIs0() {
        BackLenses x = busy();
        x.show(1, 1, 0);
        due("could()", x.could(), 0);
    }

    static void promise29WithNothingShownAllCould() {
        due("could()", house("lens0;lens0;lens9;lens1;lens2;lens3;").could(), 63);
    }

    static void promise29TheSixthAlone() {
        BackLenses x = house("turn 9 0 1;lens0;lens0;lens8;lens1;lens2;lens9;");
        x.show(0, 0, 1);
        due("could()", x.could(), 32);
    }

    static void promise29WhateverIsBlind() {
        BackLenses x = house("lens 0 0 1 2 3 4 5 6 7 8;");
        x.show(0, 0, 0);
        due("could()", x.could(), 1);
    }
}
