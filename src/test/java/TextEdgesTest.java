/** Boundary cases of the text: promises 1 to 9, a test for each sentence that names one. */
public final class TextEdgesTest extends Edges {
    private static final String TEN_TURNS = "turn0 0 0;".repeat(10);
    private static final String SIX_LENSES = "lens0;".repeat(6);

    public static void main(String[] args) {
        run(TextEdgesTest.class);
    }

    // ---- promise 1: a new object

    static void promise01IsThreeByThree() {
        BackLenses x = new BackLenses();
        due("rule(0)", x.rule(0), 3);
        due("rule(1)", x.rule(1), 3);
        due("mark(8, 0)", x.mark(8, 0), 0);
        due("mark(9, 0)", x.mark(9, 0), BAD);
    }

    static void promise01HasDays0To9() {
        BackLenses x = new BackLenses();
        due("rule(2)", x.rule(2), 9);
        due("mark(0, 9)", x.mark(0, 9), 0);
        due("mark(0, 10)", x.mark(0, 10), BAD);
        due("days()", x.days(), 1023);
    }

    static void promise01HasNothingAnywhere() {
        BackLenses x = new BackLenses();
        for (int d = 0; d <= 9; d++) {
            due("all(0, " + d + ")", x.all(0, d), 511);
        }
    }

    static void promise01IsEmpty() {
        BackLenses x = new BackLenses();
        due("rule(3)", x.rule(3), 0);
        due("rule(4)", x.rule(4), 0);
        due("count(0)", x.count(0), 0);
        due("count(1)", x.count(1), 0);
        due("count(2)", x.count(2), 0);
        due("change(0, 0)", x.change(0, 0), BAD);
        due("lens(0, 0)", x.lens(0, 0), BAD);
        due("back(0)", x.back(0), STATE);
        due("back(1)", x.back(1), STATE);
    }

    static void promise01HasNoFaults() {
        BackLenses x = new BackLenses();
        due("fault()", x.fault(), 0);
        due("torn()", x.torn(), 0);
    }

    static void promise01HasSheetsOfNothing() {
        BackLenses x = new BackLenses();
        due("count(3)", x.count(3), NONE);
        for (int k = 0; k < 4; k++) {
            due("lay(" + k + ", 0, 0)", x.lay(k, 0, 0), -11);
        }
    }

    static void promise01SharesNothingWithAnother() {
        BackLenses x = busy();
        BackLenses y = new BackLenses();
        due("rule(0)", y.rule(0), 3);
        due("rule(3)", y.rule(3), 0);
        due("count(2)", y.count(2), 0);
        due("count(3)", y.count(3), NONE);
        y.first(0, 5);
        due("first(0, 0) of the other", x.first(0, 0), 0);
    }

    // ---- promise 2: feed

    static void promise02Byte0And127AreTaken() {
        BackLenses x = new BackLenses();
        due("feed(0)", x.feed(0), 1);
        due("feed(127)", x.feed(127), 2);
    }

    static void promise02ByteBelow0IsBad() {
        BackLenses x = new BackLenses();
        due("feed(-1)", x.feed(-1), BAD);
        due("feed(least)", x.feed(LEAST), BAD);
    }

    static void promise02ByteAbove127IsBad() {
        BackLenses x = new BackLenses();
        due("feed(128)", x.feed(128), BAD);
        due("feed(256 + 32)", x.feed(256 + 32), BAD);
        due("feed(most)", x.feed(MOST), BAD);
    }

    static void promise02TheTapeTakes160() {
        BackLenses x = new BackLenses();
        for (int i = 1; i <= TAPE; i++) {
            due("feed " + i, x.feed(32), i);
        }
        due("count(2)", x.count(2), TAPE);
    }

    static void promise02The161stIsFull() {
        BackLenses x = new BackLenses();
        feedAll(x, padded("", TAPE));
        due("feed(32)", x.feed(32), FULL);
        due("feed(0)", x.feed(0), FULL);
        due("feed(127)", x.feed(127), FULL);
    }

    static void promise02BadIsAheadOfFull() {
        BackLenses x = new BackLenses();
        feedAll(x, padded("", TAPE));
        due("feed(128)", x.feed(128), BAD);
        due("feed(-1)", x.feed(-1), BAD);
    }

    static void promise02RefusedChangesNothing() {
        BackLenses x = new BackLenses();
        feedAll(x, padded("last 7;", TAPE));
        unchanged(x, () -> {
            due("feed(33)", x.feed(33), FULL);
            due("feed(128)", x.feed(128), BAD);
        });
        due("text()", x.text(), 1);
        due("rule(2)", x.rule(2), 7);
    }

    static void promise02ThereIsRoomAgainBehindEnd() {
        BackLenses x = new BackLenses();
        feedAll(x, padded("", TAPE));
        x.end(159);
        due("feed(32)", x.feed(32), 160);
        due("feed(32)", x.feed(32), FULL);
    }

    static void promise02ThereIsRoomAgainBehindText() {
        BackLenses x = new BackLenses();
        feedAll(x, padded("", TAPE));
        x.text();
        due("feed(32) behind a taken one", x.feed(32), 1);
        feedAll(x, padded("#", TAPE - 1));
        x.text();
        due("feed(32) behind a refused one", x.feed(32), 1);
    }

    // ---- promise 3: end

    static void promise03AllOfItMayStay() {
        BackLenses x = new BackLenses();
        feedAll(x, "last 7;");
        due("end(7)", x.end(7), 7);
        due("count(2)", x.count(2), 7);
        feedAll(x, padded("", TAPE - 7));
        due("end(160)", x.end(160), 160);
        due("count(2)", x.count(2), 160);
    }

    static void promise03NoneMayStay() {
        BackLenses x = new BackLenses();
        due("end(0) of an empty tape", x.end(0), 0);
        feedAll(x, "x");
        due("end(0)", x.end(0), 1);
        due("count(2)", x.count(2), 0);
        due("text()", x.text(), 0);
    }

    static void promise03MoreThanThereAreIsBad() {
        BackLenses x = new BackLenses();
        due("end(1) of an empty tape", x.end(1), BAD);
        feedAll(x, "xyz");
        due("end(4)", x.end(4), BAD);
        due("end(most)", x.end(MOST), BAD);
        feedAll(x, padded("", TAPE - 3));
        due("end(161)", x.end(161), BAD);
    }

    static void promise03Below0IsBad() {
        BackLenses x = new BackLenses();
        feedAll(x, "xyz");
        due("end(-1)", x.end(-1), BAD);
        due("end(least)", x.end(LEAST), BAD);
    }

    static void promise03TheFirstStay() {
        BackLenses x = new BackLenses();
        feedAll(x, "last 3;last 4;");
        due("end(7)", x.end(7), 14);
        due("text()", x.text(), 1);
        due("rule(2)", x.rule(2), 3);
    }

    static void promise03RefusedChangesNothing() {
        BackLenses x = new BackLenses();
        feedAll(x, "last 3;");
        unchanged(x, () -> {
            due("end(8)", x.end(8), BAD);
            due("end(-1)", x.end(-1), BAD);
        });
        due("text()", x.text(), 1);
        due("rule(2)", x.rule(2), 3);
    }

    // ---- promise 4: text

    static void promise04AnEmptyTapeHasNoLines() {
        takes("", 0);
    }

    static void promise04BlanksHaveNoLines() {
        takes(" ", 0);
        takes(padded("", TAPE), 0);
    }

    static void promise04AFullTapeIsReadWhole() {
        BackLenses x = takes(padded("last 4;", TAPE - 8) + "cell0 1;", 2);
        due("mark(0, 4)", x.mark(0, 4), 1);
        due("rule(2)", x.rule(2), 4);
        refuses(padded("last 4;", TAPE - 7) + "cell0 1", 2, TAPE);
    }

    static void promise04TheTapeIsEmptyThen() {
        BackLenses x = new BackLenses();
        due("text()", told(x, "last 4;"), 1);
        due("count(2)", x.count(2), 0);
        due("text()", told(x, "last 4"), -16);
        due("count(2)", x.count(2), 0);
        due("text()", x.text(), 0);
    }

    static void promise04AFaultAtPlace0IsMinus10() {
        refuses("#", 1, 0);
    }

    static void promise04AFaultAtThePlaceOfTheLastByte() {
        refuses(padded("", TAPE - 1) + "#", 1, 159);
    }

    static void promise04AFaultAtTheLengthOfAFullTape() {
        refuses(padded("last 3", TAPE), 2, 160);
        refuses(padded("cell 9 0;", TAPE), 6, 160);
    }

    static void promise04BytesOfAnEarlierTapeAreNotRead() {
        BackLenses x = new BackLenses();
        told(x, "last 3;cell 0 1;");
        due("text()", told(x, "last 4;"), 1);
        due("rule(2)", x.rule(2), 4);
        due("mark(0, 0)", x.mark(0, 0), 0);
        due("text()", told(x, "last 4"), -16);
    }

    static void promise04HouseIsTwoToFourEach() {
        for (int wide = 2; wide <= 4; wide++) {
            for (int high = 2; high <= 4; high++) {
                BackLenses x = takes("house " + wide + " " + high + ";", 1);
                due("rule(0)", x.rule(0), wide);
                due("rule(1)", x.rule(1), high);
                due("the last cell", x.mark(wide * high - 1, 0), 0);
                due("one more", x.mark(wide * high, 0), BAD);
            }
        }
    }

    static void promise04LastIs0To9() {
        for (int last = 0; last <= 9; last++) {
            BackLenses x = takes("last " + last + ";", 1);
            due("rule(2)", x.rule(2), last);
            due("mark on LAST", x.mark(0, last), 0);
            due("mark behind LAST", x.mark(0, last + 1), BAD);
        }
    }

    static void promise04CellsAre0To15AndMarks0To5() {
        BackLenses x = takes("house 4 4;cell 0 5;cell 15 5;cell 1 0;", 4);
        due("mark(0, 0)", x.mark(0, 0), 5);
        due("mark(15, 0)", x.mark(15, 0), 5);
        due("mark(1, 0)", x.mark(1, 0), 0);
    }

    static void promise04TurnsAreOfDays0To9() {
        BackLenses x = takes("house 4 4;turn 0 0 0;turn 9 15 5;", 3);
        due("change(0, 0)", x.change(0, 0), 0);
        due("change(1, 0)", x.change(1, 0), 9);
        due("change(1, 1)", x.change(1, 1), 15);
        due("change(1, 2)", x.change(1, 2), 5);
    }

    static void promise04TenTurnsAreTaken() {
        due("rule(3)", takes(TEN_TURNS, 10).rule(3), 10);
    }

    static void promise04TheSameTurnTwiceIsTaken() {
        due("rule(3)", takes("turn 1 2 3;turn 1 2 3;", 2).rule(3), 2);
    }

    static void promise04SixLensesAreTaken() {
        due("rule(4)", takes(SIX_LENSES, 6).rule(4), 6);
    }

    static void promise04ALensWithNoBlindCells() {
        BackLenses x = takes("lens 9;", 1);
        due("lens(0, 0)", x.lens(0, 0), 9);
        due("lens(0, 1)", x.lens(0, 1), 0);
    }

    static void promise04ALensWithAllCellsBlind() {
        BackLenses x = takes("house 4 4;lens 0 15 14 13 12 11 10 9 8 7 6 5 4 3 2 1 0;", 2);
        due("lens(0, 1)", x.lens(0, 1), 65535);
    }

    static void promise04TheNumberOfADayMayBeABlindCell() {
        BackLenses x = takes("lens 1 1;lens 1 1;", 2);
        due("lens(0, 1)", x.lens(0, 1), 2);
        due("lens(1, 1)", x.lens(1, 1), 2);
    }

    static void promise04NumbersHaveOneFigureOrTwo() {
        BackLenses x = takes("house 02 4;last 00;cell 07 05;turn 00 00 03;lens 00 01 2;", 5);
        due("rule(0)", x.rule(0), 2);
        due("rule(2)", x.rule(2), 0);
        due("mark(7, 0)", x.mark(7, 0), 5);
        due("mark(0, 0)", x.mark(0, 0), 3);
        due("lens(0, 1)", x.lens(0, 1), 6);
    }

    static void promise04BlanksMayBeManyOrNone() {
        takes("   last   4   ;   ", 1);
        takes("last4;lens4;turn4 0 0;", 3);
    }

    static void promise04TokensAreAsLongAsMayBe() {
        refuses("lastlast 3;", 2, 0);
        refuses("house 22;", 3, 6);
        refuses("last33;", 3, 4);
        refuses("turn 123;", 1, 5);
    }

    static void promise04LinesMayComeInAnyOrder() {
        BackLenses x = takes("lens 7 15;turn 8 15 2;cell 15 1;last 8;house 4 4;", 5);
        due("mark(15, 7)", x.mark(15, 7), 1);
        due("mark(15, 8)", x.mark(15, 8), 2);
    }

    static void promise04ATakenTextIsInPlaceOfWhatThereWas() {
        BackLenses x = busy();
        x.end(0);
        due("text()", told(x, "turn 2 1 5;"), 1);
        due("rule(0)", x.rule(0), 3);
        due("rule(1)", x.rule(1), 3);
        due("rule(2)", x.rule(2), 9);
        due("rule(3)", x.rule(3), 1);
        due("rule(4)", x.rule(4), 0);
        due("all(0, 1)", x.all(0, 1), 511);
        due("all(0, 9)", x.all(0, 9), 511 - 2);
    }

    static void promise04ATextWithoutAHouseIsThreeByThree() {
        for (String before : new String[] {"house 2 4;last 3;", "house 4 2;last 3;"}) {
            BackLenses x = house(before);
            due("text()", told(x, "cell 8 1;turn 9 8 2;"), 2);
            due("rule(0)", x.rule(0), 3);
            due("rule(1)", x.rule(1), 3);
            due("rule(2)", x.rule(2), 9);
        }
    }

    static void promise04IsSeenAtOnce() {
        BackLenses x = new BackLenses();
        due("sees(0, 0)", x.sees(0, 0), 79);
        due("text()", told(x, "cell 1 4;"), 1);
        due("sees(0, 0)", x.sees(0, 0), 75);
        due("mark(1, 0)", x.mark(1, 0), 4);
    }

    static void promise04AnEmptyTextIsInPlaceToo() {
        BackLenses x = busy();
        x.end(0);
        due("text()", x.text(), 0);
        due("rule(1)", x.rule(1), 3);
        due("rule(2)", x.rule(2), 9);
        due("rule(3)", x.rule(3), 0);
        due("rule(4)", x.rule(4), 0);
        due("all(0, 0)", x.all(0, 0), 511);
        due("count(0)", x.count(0), 0);
        due("count(1)", x.count(1), 0);
    }

    static void promise04NothingIsShownBehindATakenText() {
        BackLenses x = busy();
        x.end(0);
        due("count(0)", x.count(0), 1);
        due("text()", told(x, "last 4;"), 1);
        due("count(0)", x.count(0), 0);
        due("days()", x.days(), 31);
    }

    static void promise04ImagesAreGoneBehindATakenText() {
        BackLenses x = busy();
        x.end(0);
        x.keep(1);
        due("count(1)", x.count(1), 2);
        due("text()", x.text(), 0);
        due("count(1)", x.count(1), 0);
        due("back(0)", x.back(0), STATE);
        due("back(1)", x.back(1), STATE);
        due("keep(0)", x.keep(0), 0);
    }

    static void promise04SheetsStay() {
        BackLenses x = busy();
        x.end(0);
        due("text()", x.text(), 0);
        due("count(3)", x.count(3), 5);
        due("torn()", x.torn(), 1);
    }

    static void promise04WhatWasToldStaysByAFault() {
        refuses("house 4 4;last 9;cell 0 5;turn 0 0 0;lens 0 1;#", 1, 46);
        refuses("house 4 4;last 9;cell 0 5;turn 0 0 0;lens 0 1", 2, 45);
        refuses("house 4 4;last 9;cell 0 5;turn 0 0 0;lens 0 16;", 3, 44);
        refuses("last 9;cell 0 5;turn 0 0 0;lens 0 1;last 9;", 4, 36);
        refuses("last 9;cell 0 5;" + SIX_LENSES + "lens 0;", 5, 52);
        refuses("last 8;cell 0 5;turn 9 0 0;lens 0 1;", 6, 36);
    }

    static void promise04AFaultOfOneTextIsNotOneOfTheNext() {
        BackLenses x = new BackLenses();
        due("house again", told(x, "house 2 2;last 3;cell 0 0;house"), -36);
        due("each once", told(x, "house 2 2;last 3;cell 0 0;lens 0 1;"), 4);
        due("each once more", told(x, "house 2 2;last 3;cell 0 0;lens 0 1;"), 4);
        due("lenses of a text alone", told(x, SIX_LENSES), 6);
        due("lenses of a text alone", told(x, SIX_LENSES), 6);
    }

    // ---- promise 5: fault

    static void promise05Is0WhenATextIsTaken() {
        BackLenses x = new BackLenses();
        due("fault()", x.fault(), 0);
        due("text()", told(x, "#"), -10);
        due("fault()", x.fault(), 1);
        due("text()", told(x, "last 3;"), 1);
        due("fault()", x.fault(), 0);
    }

    static void promise05StaysTillTheNextText() {
        BackLenses x = new BackLenses();
        told(x, "cell 9 0;");
        due("fault()", x.fault(), 6);
        x.feed('x');
        x.end(0);
        x.feed(-1);
        x.turn(0, 0, 0);
        x.sheet(0, 0, -1);
        x.keep(0);
        x.back(0);
        due("fault()", x.fault(), 6);
        x.text();
        due("fault()", x.fault(), 0);
    }

    static void promise05EachByteByItself() {
        BackLenses x = new BackLenses();
        for (int b = 0; b <= 127; b++) {
            boolean token = b >= 'a' && b <= 'z' || b >= '0' && b <= '9' || b == ';';
            x.feed(b);
            due("text() of byte " + b, x.text(), b == 32 ? 0 : -10);
            due("fault() of byte " + b, x.fault(), b == 32 ? 0 : token ? 2 : 1);
        }
    }

    static void promise05EachByteBehindAName() {
        BackLenses x = new BackLenses();
        for (int b = 33; b <= 127; b++) {
            boolean letter = b >= 'a' && b <= 'z';
            boolean figure = b >= '0' && b <= '9';
            feedAll(x, "last" + (char) b);
            // A letter makes the name longer, a figure is its number with no ; behind.
            due("text() of last and byte " + b, x.text(), letter ? -10 : figure ? -15 : -14);
        }
    }

    static void promise05ANumberOfThreeFigures() {
        refuses("last 100;", 1, 5);
        refuses("last 000;", 1, 5);
        refuses("house 2 0003;", 1, 8);
        refuses("lens 1 2 003;", 1, 9);
        refuses("123", 1, 0);
        refuses("last 3;  123", 1, 9);
        refuses("last 3 123", 1, 7);
        refuses("last " + "1".repeat(TAPE - 5), 1, 5);
    }

    static void promise05ANumberOfTwoFiguresIsNotTooLong() {
        refuses("last 10;", 3, 5);
        refuses("last 99;", 3, 5);
        takes("last 09;", 1);
    }

    static void promise05ANameThatBeginsNoLine() {
        refuses("hous 2 2;", 2, 0);
        refuses("houses 2 2;", 2, 0);
        refuses("las 2;", 2, 0);
        refuses("lasts 2;", 2, 0);
        refuses("cel 2 2;", 2, 0);
        refuses("cells 2 2;", 2, 0);
        refuses("turns 2 2 2;", 2, 0);
        refuses("turm 2 2 2;", 2, 0);
        refuses("lenses 2;", 2, 0);
        refuses("len 2;", 2, 0);
        refuses("mouse 2 2;", 2, 0);
        refuses("past 2;", 2, 0);
        refuses("bell 2 2;", 2, 0);
        refuses("burn 2 2 2;", 2, 0);
        refuses("tens 2;", 2, 0);
        refuses("housf 2 2;", 2, 0);
        refuses("lasu 2;", 2, 0);
        refuses("celm 2 2;", 2, 0);
        refuses("lent 2;", 2, 0);
        refuses("a", 2, 0);
        refuses("z", 2, 0);
        refuses(" last 3; x", 2, 9);
    }

    static void promise05NoNameBeginsALine() {
        refuses("3;", 2, 0);
        refuses(";", 2, 0);
        refuses("last 3;;", 2, 7);
        refuses("last 3; 3", 2, 8);
    }

    static void promise05TooFewNumbers() {
        refuses("house;", 2, 5);
        refuses("house 2;", 2, 7);
        refuses("last;", 2, 4);
        refuses("cell;", 2, 4);
        refuses("cell 1;", 2, 6);
        refuses("turn;", 2, 4);
        refuses("turn 1;", 2, 6);
        refuses("turn 1 2;", 2, 8);
        refuses("lens;", 2, 4);
    }

    static void promise05TooManyNumbers() {
        refuses("house 2 2 2;", 2, 10);
        refuses("last 2 2;", 2, 7);
        refuses("cell 1 2 3;", 2, 9);
        refuses("turn 1 2 3 4;", 2, 11);
    }

    static void promise05ANameWhereANumberOrASemicolonStands() {
        refuses("house house 2;", 2, 6);
        refuses("house 2 x;", 2, 8);
        refuses("house 2 2 x;", 2, 10);
        refuses("last last 3;", 2, 5);
        refuses("last 3 last", 2, 7);
        refuses("cell x 1;", 2, 5);
        refuses("cell 1 x;", 2, 7);
        refuses("cell 1 1 x;", 2, 9);
        refuses("turn x 1 1;", 2, 5);
        refuses("turn 1 x 1;", 2, 7);
        refuses("turn 1 1 x;", 2, 9);
        refuses("turn 1 1 1 x", 2, 11);
        refuses("lens x;", 2, 5);
        refuses("lens 1 x;", 2, 7);
        refuses("lens 1 2 x;", 2, 9);
    }

    static void promise05TheEndIsAtTheLength() {
        String[] unfinished = {
            "house", "house 2", "house 2 2", "last", "last 3", "cell", "cell 1", "cell 1 1", "turn", "turn 1", "turn 1 1",
            "turn 1 1 1", "lens", "lens 1", "lens 1 1"
        };
        for (String text : unfinished) {
            refuses(text, 2, text.length());
            refuses(text + "   ", 2, text.length() + 3);
            refuses("cell 2 0;" + text, 2, text.length() + 9);
        }
    }

    static void promise05HouseOutOfBounds() {
        refuses("house 1 2;", 3, 6);
        refuses("house 0 2;", 3, 6);
        refuses("house 5 2;", 3, 6);
        refuses("house 2 1;", 3, 8);
        refuses("house 2 5;", 3, 8);
        refuses("house 2 99;", 3, 8);
    }

    static void promise05LastOutOfBounds() {
        refuses("last 10;", 3, 5);
        refuses("last 99;", 3, 5);
    }

    static void promise05CellOutOfBounds() {
        refuses("cell 16 0;", 3, 5);
        refuses("cell 99 0;", 3, 5);
        refuses("cell 0 6;", 3, 7);
        refuses("cell 0 10;", 3, 7);
    }

    static void promise05TurnOutOfBounds() {
        refuses("turn 10 0 0;", 3, 5);
        refuses("turn 0 16 0;", 3, 7);
        refuses("turn 0 0 6;", 3, 9);
    }

    static void promise05LensOutOfBounds() {
        refuses("lens 10;", 3, 5);
        refuses("lens 0 16;", 3, 7);
        refuses("lens 0 1 2 16;", 3, 11);
    }

    static void promise05HouseForTheSecondTime() {
        refuses("house 2 2;house 2 2;", 4, 10);
        refuses("house 3 3; house 3 3;", 4, 11);
        refuses("house 2 2;last 1;house 2 2;", 4, 17);
    }

    static void promise05LastForTheSecondTime() {
        refuses("last 1;last 1;", 4, 7);
        refuses("last 9;house 2 2;last 9;", 4, 17);
    }

    static void promise05ACellToldAlready() {
        refuses("cell 0 0;cell 0 0;", 4, 14);
        refuses("cell 15 1;cell 15 2;", 4, 15);
        refuses("cell 1 0;turn 0 1 0;cell 01 0;", 4, 25);
        takes("cell 0 1;cell 1 1;turn 0 0 1;turn 0 0 1;lens 0 0;", 5);
    }

    static void promise05ABlindCellToldAlready() {
        refuses("lens 0 0 0;", 4, 9);
        refuses("lens 0 15 1 15;", 4, 12);
        refuses("lens 0 1 2 01;", 4, 11);
        takes("lens 0 0 1;lens 0 0 1;", 2);
    }

    static void promise05TheEleventhTurn() {
        refuses(TEN_TURNS + "turn0 0 0;", 5, 100);
        refuses(TEN_TURNS + "lens0;  turn0 0 0;", 5, 108);
    }

    static void promise05TheSeventhLens() {
        refuses(SIX_LENSES + "lens0;", 5, 36);
        refuses(SIX_LENSES + "turn0 0 0; lens0;", 5, 47);
    }

    static void promise05ACellThatThereIsNot() {
        refuses("house 2 2;cell 4 0;", 6, 19);
        refuses("house 2 2;turn 0 4 0;", 6, 21);
        refuses("house 2 2;lens 0 4;", 6, 19);
        refuses("cell 9 0;", 6, 9);
        refuses("turn 0 9 0;", 6, 11);
        refuses("lens 0 9;", 6, 9);
        refuses("house 3 4;cell 12 0;", 6, 20);
        refuses("cell 12 0;house 4 3;", 6, 20);
        takes("house 2 2;cell 3 0;turn 0 3 0;lens 0 3;", 4);
        takes("house 3 4;cell 11 0;turn 0 11 0;lens 0 11;", 4);
        takes("house 4 4;cell 15 0;turn 0 15 0;lens 0 15;", 4);
    }

    static void promise05ADayThatThereIsNot() {
        refuses("last 0;turn 1 0 0;", 6, 18);
        refuses("last 0;lens 1;", 6, 14);
        refuses("turn 9 0 0;last 8;", 6, 18);
        refuses("lens 9;last 8;", 6, 14);
        takes("last 0;turn 0 0 0;lens 0;", 3);
        takes("last 8;turn 8 0 0;lens 8;", 3);
    }

    static void promise05WhatThereIsNotIsAtTheLength() {
        refuses("cell 9 0;   ", 6, 12);
        refuses("lens 9;cell 0 1;cell 1 1;last 8;", 6, 32);
    }

    static void promise05WhatThereIsNotComesBehindAll() {
        refuses("cell 9 0;#", 1, 9);
        refuses("cell 9 0;x", 2, 9);
        refuses("cell 9 0;last 10;", 3, 14);
        refuses("cell 9 0;cell 9 0;", 4, 14);
        refuses("cell 9 0;" + SIX_LENSES + "lens", 5, 45);
    }

    static void promise05ATokenIsReadWhenTheOneBeforeWasTaken() {
        refuses("last 10#", 3, 5);
        refuses("last 10 100", 3, 5);
        refuses("house 5#", 3, 6);
        refuses("x#", 2, 0);
        refuses("3#", 2, 0);
        refuses(";#", 2, 0);
        refuses("last;#", 2, 4);
        refuses("last 3#", 1, 6);
        refuses("last#", 1, 4);
        refuses("lens 0 16#", 3, 7);
        refuses("lens 0 1 1#", 4, 9);
    }

    static void promise05ASecondTimeIsMetByTheName() {
        refuses("house 2 2;house#", 4, 10);
        refuses("house 2 2;house", 4, 10);
        refuses("last 2;last 10;", 4, 7);
    }

    static void promise05ACellToldAlreadyIsMetAheadOfItsMark() {
        refuses("cell 1 0;cell 1 6;", 4, 14);
        refuses("cell 1 0;cell 1#", 4, 14);
        refuses("cell 1 0;cell 1", 4, 14);
        refuses("cell 1 0;cell 16", 3, 14);
    }

    static void promise05TheEleventhAndTheSeventhAreMetByTheName() {
        refuses(TEN_TURNS + "turn", 5, 100);
        refuses(TEN_TURNS + "turn#", 5, 100);
        refuses(TEN_TURNS + "turn 10", 5, 100);
        refuses(SIX_LENSES + "lens", 5, 36);
        refuses(SIX_LENSES + "lens 10", 5, 36);
        refuses(TEN_TURNS + "turns", 2, 100);
    }

    // ---- promise 6: rule

    static void promise06WhatBelow0IsBad() {
        due("rule(-1)", busy().rule(-1), BAD);
        due("rule(least)", busy().rule(LEAST), BAD);
    }

    static void promise06WhatAbove4IsBad() {
        due("rule(5)", busy().rule(5), BAD);
        due("rule(most)", busy().rule(MOST), BAD);
    }

    static void promise06EachOfThem() {
        int[] rules = {3, 2, 4, 2, 2};
        for (int what = 0; what < 5; what++) {
            due("rule(" + what + ")", busy().rule(what), rules[what]);
        }
    }

    static void promise06CountsGoWithTheCalls() {
        BackLenses x = busy();
        x.turn(0, 0, 0);
        due("rule(3)", x.rule(3), 3);
        x.grind(0, 0);
        due("rule(4)", x.rule(4), 3);
        x.cut(0, 0);
        due("rule(3)", x.rule(3), 0);
        x.cut(1, 0);
        due("rule(4)", x.rule(4), 0);
    }

    // ---- promise 7: mark

    static void promise07NoSuchCell() {
        BackLenses x = house("house 4 2;cell 7 3;");
        due("mark(7, 0)", x.mark(7, 0), 3);
        due("mark(8, 0)", x.mark(8, 0), BAD);
        due("mark(-1, 0)", x.mark(-1, 0), BAD);
        due("mark(least, 0)", x.mark(LEAST, 0), BAD);
        due("mark(most, 0)", x.mark(MOST, 0), BAD);
    }

    static void promise07NoSuchDay() {
        BackLenses x = house("last 4;cell 0 3;");
        due("mark(0, 0)", x.mark(0, 0), 3);
        due("mark(0, 4)", x.mark(0, 4), 3);
        due("mark(0, 5)", x.mark(0, 5), BAD);
        due("mark(0, -1)", x.mark(0, -1), BAD);
        due("mark(0, least)", x.mark(0, LEAST), BAD);
        due("mark(0, most)", x.mark(0, MOST), BAD);
    }

    static void promise07AChangeIsFromItsDayOn() {
        BackLenses x = house("cell 0 1;turn 4 0 2;");
        due("mark(0, 3)", x.mark(0, 3), 1);
        due("mark(0, 4)", x.mark(0, 4), 2);
        due("mark(0, 9)", x.mark(0, 9), 2);
        due("mark(1, 4)", x.mark(1, 4), 0);
    }

    static void promise07AChangeOnDay0AndOnLast() {
        BackLenses x = house("last 3;cell 0 1;turn 0 0 2;turn 3 0 4;");
        due("mark(0, 0)", x.mark(0, 0), 2);
        due("mark(0, 2)", x.mark(0, 2), 2);
        due("mark(0, 3)", x.mark(0, 3), 4);
    }

    static void promise07TheLatestDayWhateverTheOrder() {
        BackLenses x = house("turn 5 0 1;turn 2 0 2;");
        due("mark(0, 1)", x.mark(0, 1), 0);
        due("mark(0, 2)", x.mark(0, 2), 2);
        due("mark(0, 4)", x.mark(0, 4), 2);
        due("mark(0, 5)", x.mark(0, 5), 1);
    }

    static void promise07OfSeveralOnADayTheLast() {
        BackLenses x = house("turn 2 0 1;turn 2 0 5;turn 2 0 3;turn 1 0 2;");
        due("mark(0, 2)", x.mark(0, 2), 3);
        due("mark(0, 1)", x.mark(0, 1), 2);
    }

    static void promise07WithNoChangeThatAtFirst() {
        BackLenses x = house("cell 3 5;turn 1 4 2;");
        for (int d = 0; d <= 9; d++) {
            due("mark(3, " + d + ")", x.mark(3, d), 5);
        }
    }

    // ---- promise 8: change

    static void promise08NoSuchChange() {
        BackLenses x = busy();
        due("change(1, 0)", x.change(1, 0), 1);
        due("change(2, 0)", x.change(2, 0), BAD);
        due("change(-1, 0)", x.change(-1, 0), BAD);
        due("change(least, 0)", x.change(LEAST, 0), BAD);
        due("change(most, 0)", x.change(MOST, 0), BAD);
        due("change(0, 0) of none", new BackLenses().change(0, 0), BAD);
    }

    static void promise08TheTenthAndNoEleventh() {
        BackLenses x = house(TEN_TURNS);
        x.cut(0, 9);
        x.turn(9, 8, 5);
        due("change(9, 0)", x.change(9, 0), 9);
        due("change(9, 1)", x.change(9, 1), 8);
        due("change(9, 2)", x.change(9, 2), 5);
        due("change(10, 0)", x.change(10, 0), BAD);
    }

    static void promise08WhatIs0To2() {
        BackLenses x = busy();
        due("change(0, 0)", x.change(0, 0), 3);
        due("change(0, 1)", x.change(0, 1), 5);
        due("change(0, 2)", x.change(0, 2), 1);
        due("change(0, 3)", x.change(0, 3), BAD);
        due("change(0, -1)", x.change(0, -1), BAD);
        due("change(1, -1)", x.change(1, -1), BAD);
        due("change(0, least)", x.change(0, LEAST), BAD);
        due("change(0, most)", x.change(0, MOST), BAD);
    }

    static void promise08WhatWasCutIsGone() {
        BackLenses x = busy();
        x.cut(0, 1);
        due("change(0, 0)", x.change(0, 0), 3);
        due("change(1, 0)", x.change(1, 0), BAD);
    }

    // ---- promise 9: lens

    static void promise09NoSuchLens() {
        BackLenses x = busy();
        due("lens(1, 0)", x.lens(1, 0), 4);
        due("lens(2, 0)", x.lens(2, 0), BAD);
        due("lens(-1, 0)", x.lens(-1, 0), BAD);
        due("lens(least, 0)", x.lens(LEAST, 0), BAD);
        due("lens(most, 0)", x.lens(MOST, 0), BAD);
        due("lens(0, 0) of none", new BackLenses().lens(0, 0), BAD);
    }

    static void promise09TheSixthAndNoSeventh() {
        BackLenses x = house("lens0;lens0;lens0;lens0;lens0;lens 9 8 0;");
        due("lens(5, 0)", x.lens(5, 0), 9);
        due("lens(5, 1)", x.lens(5, 1), 257);
        due("lens(6, 0)", x.lens(6, 0), BAD);
    }

    static void promise09WhatIs0Or1() {
        BackLenses x = busy();
        due("lens(0, 0)", x.lens(0, 0), 2);
        due("lens(0, 1)", x.lens(0, 1), 1);
        due("lens(0, 2)", x.lens(0, 2), BAD);
        due("lens(0, -1)", x.lens(0, -1), BAD);
        due("lens(1, -1)", x.lens(1, -1), BAD);
        due("lens(0, least)", x.lens(0, LEAST), BAD);
        due("lens(0, most)", x.lens(0, MOST), BAD);
    }

    static void promise09WhatWasCutIsGone() {
        BackLenses x = busy();
        x.cut(1, 1);
        due("lens(0, 0)", x.lens(0, 0), 2);
        due("lens(1, 0)", x.lens(1, 0), BAD);
    }
}
