/** Boundary cases of looks: promises 16 to 22, a test for each sentence that names one. */
public final class LookEdgesTest extends Edges {
    public static void main(String[] args) {
        run(LookEdgesTest.class);
    }

    // ---- promise 16: sees

    static void promise16NoSuchCell() {
        BackLenses x = busy();
        due("sees(5, 0)", x.sees(5, 0), 4 + 8 + 16 + 32);
        due("sees(6, 0)", x.sees(6, 0), BAD);
        due("sees(-1, 0)", x.sees(-1, 0), BAD);
        due("sees(least, 0)", x.sees(LEAST, 0), BAD);
        due("sees(most, 0)", x.sees(MOST, 0), BAD);
    }

    static void promise16NoSuchDay() {
        BackLenses x = house("last 2;cell 1 4;turn 2 1 0;");
        due("sees(0, 0)", x.sees(0, 0), 1 + 2 + 8 + 64);
        due("sees(0, 1)", x.sees(0, 1), 1 + 2 + 8 + 64);
        due("sees(0, 2)", x.sees(0, 2), 1 + 2 + 4 + 8 + 64);
        due("sees(0, 3)", x.sees(0, 3), BAD);
        due("sees(0, -1)", x.sees(0, -1), BAD);
        due("sees(0, least)", x.sees(0, LEAST), BAD);
        due("sees(0, most)", x.sees(0, MOST), BAD);
    }

    static void promise16OneSeesTheOwnCellAndNextOnesThroughAnything() {
        BackLenses x = house("house 2 2;cell 0 4;cell 1 4;cell 2 4;cell 3 4;");
        due("sees(0, 0)", x.sees(0, 0), 1 + 2 + 4);
        due("sees(1, 0)", x.sees(1, 0), 1 + 2 + 8);
        due("sees(2, 0)", x.sees(2, 0), 1 + 4 + 8);
        due("sees(3, 0)", x.sees(3, 0), 2 + 4 + 8);
    }

    static void promise16OneSeesOutOfACurtainAndADoor() {
        due("out of a curtain", house("house 4 4;cell 5 4;").sees(5, 0), 0x22f2);
        due("out of a door", house("house 4 4;cell 5 5;").sees(5, 0), 0x22f2);
    }

    static void promise16EastAndWestUpToAndWithACurtain() {
        BackLenses x = house("house 4 2;cell 1 4;cell 2 4;");
        due("east", x.sees(0, 0), 1 + 2 + 16);
        due("west", x.sees(3, 0), 8 + 4 + 128);
    }

    static void promise16NorthAndSouthUpToAndWithACurtain() {
        BackLenses x = house("house 2 4;cell 2 4;cell 4 4;");
        due("south", x.sees(0, 0), 1 + 2 + 4);
        due("north", x.sees(6, 0), 64 + 128 + 16);
    }

    static void promise16NorthAndSouthUpToAndWithADoor() {
        BackLenses x = house("house 2 4;cell 2 5;cell 4 5;");
        due("south", x.sees(0, 0), 1 + 2 + 4);
        due("north", x.sees(6, 0), 64 + 128 + 16);
    }

    static void promise16EastAndWestPastADoor() {
        BackLenses x = house("house 4 2;cell 1 5;cell 2 5;");
        due("east", x.sees(0, 0), 15 + 16);
        due("west", x.sees(3, 0), 15 + 128);
    }

    static void promise16PastChairsClocksAndChests() {
        for (int m = 0; m <= 3; m++) {
            BackLenses x = house("house 4 4;cell 5 " + m + ";cell 6 " + m + ";cell 9 " + m + ";");
            due("east", x.sees(4, 0), 0x11f1);
            due("west", x.sees(7, 0), 0x88f8);
            due("south", x.sees(1, 0), 0x222f);
            due("north", x.sees(13, 0), 0xf222);
        }
    }

    static void promise16RowsDoNotGoOnInTheNextOne() {
        BackLenses x = house("house 4 4;");
        int[] row = {0x000f, 0x00f0, 0x0f00, 0xf000};
        int[] column = {0x1111, 0x2222, 0x4444, 0x8888};
        for (int c = 0; c < 16; c++) {
            due("sees(" + c + ", 0)", x.sees(c, 0), row[c / 4] | column[c % 4]);
        }
    }

    static void promise16CellsGoRowByRowInAHouseThatIsNotSquare() {
        BackLenses wide = house("house 4 2;");
        due("sees(0, 0)", wide.sees(0, 0), 15 + 16);
        due("sees(7, 0)", wide.sees(7, 0), 8 + 16 + 32 + 64 + 128);
        BackLenses high = house("house 2 4;");
        due("sees(0, 0)", high.sees(0, 0), 1 + 2 + 4 + 16 + 64);
        due("sees(7, 0)", high.sees(7, 0), 2 + 8 + 32 + 64 + 128);
    }

    // ---- promise 17: shows

    static void promise17NoSuchLens() {
        BackLenses x = busy();
        due("shows(1, 1, 1)", x.shows(1, 1, 1), 2);
        due("shows(2, 1, 1)", x.shows(2, 1, 1), BAD);
        due("shows(-1, 1, 1)", x.shows(-1, 1, 1), BAD);
        due("shows(least, 1, 1)", x.shows(LEAST, 1, 1), BAD);
        due("shows(most, 1, 1)", x.shows(MOST, 1, 1), BAD);
        due("shows(0, 0, 0) of none", new BackLenses().shows(0, 0, 0), BAD);
    }

    static void promise17NoSuchCell() {
        BackLenses x = busy();
        due("shows(1, 5, 5)", x.shows(1, 5, 5), 1);
        due("shows(1, 6, 5)", x.shows(1, 6, 5), BAD);
        due("shows(1, 5, 6)", x.shows(1, 5, 6), BAD);
        due("shows(1, -1, 5)", x.shows(1, -1, 5), BAD);
        due("shows(1, 5, -1)", x.shows(1, 5, -1), BAD);
        due("shows(1, least, 5)", x.shows(1, LEAST, 5), BAD);
        due("shows(1, 5, most)", x.shows(1, 5, MOST), BAD);
        due("shows(1, 0, 36)", x.shows(1, 0, 36), BAD);
    }

    static void promise17ItsOwnCell() {
        BackLenses x = house("cell 4 4;lens 0;");
        for (int c = 0; c < 9; c++) {
            due("shows(0, " + c + ", " + c + ")", x.shows(0, c, c), c == 4 ? 4 : 0);
        }
    }

    static void promise17ItsOwnCellBlind() {
        due("shows(0, 4, 4)", house("cell 4 4;lens 0 4;").shows(0, 4, 4), NONE);
    }

    static void promise17NothingIsAMark() {
        due("shows(0, 0, 1)", house("lens 0;").shows(0, 0, 1), 0);
    }

    static void promise17NotInSightIsNone() {
        BackLenses x = house("house 4 2;cell 1 4;lens 0;");
        due("the curtain", x.shows(0, 0, 1), 4);
        due("behind it", x.shows(0, 0, 2), NONE);
        due("far behind it", x.shows(0, 0, 3), NONE);
        due("across", x.shows(0, 0, 5), NONE);
    }

    static void promise17BlindIsNoneButWhatIsBehindIsShown() {
        BackLenses x = house("house 4 2;cell 2 3;lens 0 1;lens 0;");
        due("blind", x.shows(0, 0, 1), NONE);
        due("behind it", x.shows(0, 0, 2), 3);
        due("in the other", x.shows(1, 0, 1), 0);
    }

    static void promise17MarksAreThoseOfItsDay() {
        BackLenses x = house("last 2;cell 0 1;turn 1 0 2;turn 2 0 3;lens 0;lens 1;lens 2;");
        for (int l = 0; l < 3; l++) {
            due("shows(" + l + ", 1, 0)", x.shows(l, 1, 0), l + 1);
        }
        x.regrind(2, 0);
        due("ground anew", x.shows(2, 1, 0), 1);
    }

    // ---- promise 18: frame

    static void promise18NoSuchLens() {
        BackLenses x = busy();
        due("frame(1, 1, 0)", x.frame(1, 1, 0), 0);
        due("frame(2, 0, 0)", x.frame(2, 0, 0), BAD);
        due("frame(0, 2, 0)", x.frame(0, 2, 0), BAD);
        due("frame(-1, 0, 0)", x.frame(-1, 0, 0), BAD);
        due("frame(0, -1, 0)", x.frame(0, -1, 0), BAD);
        due("frame(least, 0, 0)", x.frame(LEAST, 0, 0), BAD);
        due("frame(0, most, 0)", x.frame(0, MOST, 0), BAD);
        due("frame(0, 0, 0) of none", new BackLenses().frame(0, 0, 0), BAD);
    }

    static void promise18NoSuchCell() {
        BackLenses x = busy();
        due("frame(0, 1, 5)", x.frame(0, 1, 5), 32);
        due("frame(0, 1, 6)", x.frame(0, 1, 6), BAD);
        due("frame(0, 1, -1)", x.frame(0, 1, -1), BAD);
        due("frame(0, 1, least)", x.frame(0, 1, LEAST), BAD);
        due("frame(0, 1, most)", x.frame(0, 1, MOST), BAD);
    }

    static void promise18ALensWithItself() {
        BackLenses x = busy();
        for (int c = 0; c < 6; c++) {
            due("frame(0, 0, " + c + ")", x.frame(0, 0, c), 0);
        }
    }

    static void promise18TwoOfOneDay() {
        due("frame(0, 1, 0)", house("turn 1 0 2;lens 1;lens 1;").frame(0, 1, 0), 0);
    }

    static void promise18ACellThatIsBlindInOne() {
        BackLenses x = house("last 1;turn 1 0 1;turn 1 1 2;lens 0 0;lens 1 1;lens 1;");
        due("each in one", x.frame(0, 1, 0), 0);
        due("each in one, turned", x.frame(1, 0, 0), 0);
        due("in the first alone", x.frame(0, 2, 0), 2);
        due("in the second alone", x.frame(2, 0, 0), 2);
    }

    static void promise18ACellThatIsInSightOnOneDayAlone() {
        BackLenses x = house("house 4 2;last 1;turn 1 1 4;turn 1 2 3;lens 0;lens 1;");
        due("frame(0, 1, 0)", x.frame(0, 1, 0), 2);
        due("frame(1, 0, 0)", x.frame(1, 0, 0), 2);
        due("from between", x.frame(0, 1, 2), 2 + 4);
    }

    // ---- promise 19: between

    static void promise19NoSuchDay() {
        BackLenses x = busy();
        due("between(0, 4)", x.between(0, 4), 33);
        due("between(4, 0)", x.between(4, 0), 33);
        due("between(5, 0)", x.between(5, 0), BAD);
        due("between(0, 5)", x.between(0, 5), BAD);
        due("between(-1, 0)", x.between(-1, 0), BAD);
        due("between(0, -1)", x.between(0, -1), BAD);
        due("between(least, 0)", x.between(LEAST, 0), BAD);
        due("between(0, most)", x.between(0, MOST), BAD);
    }

    static void promise19OneDayTwice() {
        BackLenses x = busy();
        for (int d = 0; d <= 4; d++) {
            due("between(" + d + ", " + d + ")", x.between(d, d), 0);
        }
    }

    static void promise19NoneOrAllUnlike() {
        BackLenses x = house("house 2 2;last 2;turn 2 0 1;turn 2 1 2;turn 2 2 3;turn 2 3 4;");
        due("none", x.between(0, 1), 0);
        due("all", x.between(1, 2), 15);
    }

    static void promise19InTheWidestHouse() {
        BackLenses x = house("house 4 4;turn 2 0 1;turn 9 15 1;");
        due("between(0, 1)", x.between(0, 1), 0);
        due("between(1, 2)", x.between(1, 2), 1);
        due("between(8, 9)", x.between(8, 9), 32768);
    }

    static void promise19AChangeAndBackIsAlike() {
        due("between(0, 2)", house("last 2;turn 1 0 1;turn 2 0 0;").between(0, 2), 0);
    }

    // ---- promise 20: all

    static void promise20MarksAre0To5() {
        BackLenses x = house("house 3 2;cell 1 1;cell 2 2;cell 3 3;cell 4 4;cell 5 5;");
        for (int m = 0; m <= 5; m++) {
            due("all(" + m + ", 0)", x.all(m, 0), 1 << m);
        }
        due("all(6, 0)", x.all(6, 0), BAD);
        due("all(-1, 0)", x.all(-1, 0), BAD);
        due("all(NONE, 0)", x.all(NONE, 0), BAD);
        due("all(least, 0)", x.all(LEAST, 0), BAD);
        due("all(most, 0)", x.all(MOST, 0), BAD);
    }

    static void promise20NoSuchDay() {
        BackLenses x = busy();
        due("all(1, 4)", x.all(1, 4), 32);
        due("all(1, 0)", x.all(1, 0), 0);
        due("all(1, 5)", x.all(1, 5), BAD);
        due("all(1, -1)", x.all(1, -1), BAD);
        due("all(1, least)", x.all(1, LEAST), BAD);
        due("all(1, most)", x.all(1, MOST), BAD);
    }

    static void promise20AllCellsOrNone() {
        BackLenses x = house("house 4 4;");
        due("all(0, 0)", x.all(0, 0), 65535);
        due("all(5, 0)", x.all(5, 0), 0);
        due("all(0, 0) of the smallest", house("house 2 2;").all(0, 0), 15);
    }

    // ---- promise 21: since

    static void promise21NoSuchCell() {
        BackLenses x = busy();
        due("since(5, 4, 0)", x.since(5, 4, 0), 3);
        due("since(6, 4, 0)", x.since(6, 4, 0), BAD);
        due("since(-1, 4, 0)", x.since(-1, 4, 0), BAD);
        due("since(least, 4, 0)", x.since(LEAST, 4, 0), BAD);
        due("since(most, 4, 0)", x.since(MOST, 4, 0), BAD);
    }

    static void promise21NoSuchDay() {
        BackLenses x = busy();
        due("since(0, 0, 0)", x.since(0, 0, 0), 0);
        due("since(0, 4, 0)", x.since(0, 4, 0), 1);
        due("since(0, 5, 0)", x.since(0, 5, 0), BAD);
        due("since(0, -1, 1)", x.since(0, -1, 1), BAD);
        due("since(0, least, 0)", x.since(0, LEAST, 0), BAD);
        due("since(0, most, 1)", x.since(0, MOST, 1), BAD);
    }

    static void promise21WhatIs0Or1() {
        BackLenses x = busy();
        due("since(0, 2, 0)", x.since(0, 2, 0), 1);
        due("since(0, 2, 1)", x.since(0, 2, 1), 4);
        due("since(0, 2, 2)", x.since(0, 2, 2), BAD);
        due("since(0, 2, -1)", x.since(0, 2, -1), BAD);
        due("since(0, 2, most)", x.since(0, 2, MOST), BAD);
    }

    static void promise21SinceDay0TillLast() {
        BackLenses x = house("last 6;cell 3 2;");
        for (int d = 0; d <= 6; d++) {
            due("since(3, " + d + ", 0)", x.since(3, d, 0), 0);
            due("since(3, " + d + ", 1)", x.since(3, d, 1), 6);
        }
    }

    static void promise21OneDayAlone() {
        BackLenses x = house("last 0;");
        due("since(0, 0, 0)", x.since(0, 0, 0), 0);
        due("since(0, 0, 1)", x.since(0, 0, 1), 0);
    }

    static void promise21AnotherMarkBetween() {
        BackLenses x = house("last 4;turn 2 0 1;turn 3 0 0;");
        int[] since = {0, 0, 2, 3, 3};
        int[] till = {1, 1, 2, 4, 4};
        for (int d = 0; d <= 4; d++) {
            due("since(0, " + d + ", 0)", x.since(0, d, 0), since[d]);
            due("since(0, " + d + ", 1)", x.since(0, d, 1), till[d]);
        }
    }

    static void promise21AChangeToTheSameIsNoOtherMark() {
        BackLenses x = house("cell 0 2;turn 3 0 2;turn 5 0 1;turn 5 0 2;");
        due("since(0, 9, 0)", x.since(0, 9, 0), 0);
        due("since(0, 0, 1)", x.since(0, 0, 1), 9);
    }

    // ---- promise 22: again

    static void promise22Day0IsNever() {
        due("again() of one day", house("last 0;").again(), 0);
        due("again() of two alike", house("last 1;").again(), 2);
    }

    static void promise22AllDaysAlike() {
        due("again()", new BackLenses().again(), 1022);
    }

    static void promise22NoDaysAlike() {
        due("again()", house("last 3;turn 1 0 1;turn 2 0 2;turn 3 0 3;").again(), 0);
    }

    static void promise22InAllCells() {
        due("one cell is unlike", house("last 2;turn 1 0 1;turn 2 0 0;turn 2 8 1;").again(), 0);
        due("none is", house("last 2;turn 1 0 1;turn 2 0 0;").again(), 4);
    }

    static void promise22TheLaterOfTwoAlike() {
        due("the first, the ninth", house("turn 1 0 1;turn 2 0 2;turn 3 0 3;turn 4 0 4;turn 5 0 5;turn 6 1 1;"
            + "turn 7 1 2;turn 8 1 3;turn 9 0 0;turn 9 1 0;").again(), 512);
    }
}
