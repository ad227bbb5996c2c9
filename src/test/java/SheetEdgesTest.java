/** Boundary cases of images and sheets: promises 38 to 44, a test for each sentence that names one. */
public final class SheetEdgesTest extends Edges {
    private static final int NULL_FAULT = 1, INDEX_FAULT = 2, CAST_FAULT = 3;

    public static void main(String[] args) {
        run(SheetEdgesTest.class);
    }

    /** A new object with sheet 1 of a lane, of so many cells, the first of them laid. */
    private static BackLenses laid(int lane, int cells, int... values) {
        BackLenses x = new BackLenses();
        due("sheet(1, " + lane + ", " + cells + ")", x.sheet(1, lane, cells), 1);
        for (int i = 0; i < values.length; i++) {
            due("lay(1, " + i + ", " + values[i] + ")", x.lay(1, i, values[i]), 1);
        }
        return x;
    }

    private static void readIs(BackLenses x, int f, int n, int came, int fault) {
        due("read(1, 0, " + f + ", " + n + ")", x.read(1, 0, f, n), came);
        due("torn()", x.torn(), fault);
    }

    // ---- promise 38: keep

    static void promise38ImagesAre0And1() {
        BackLenses x = busy();
        due("keep(1)", x.keep(1), 0);
        due("keep(2)", x.keep(2), BAD);
        due("keep(-1)", x.keep(-1), BAD);
        due("keep(least)", x.keep(LEAST), BAD);
        due("keep(most)", x.keep(MOST), BAD);
    }

    static void promise38WhetherThereWasOne() {
        BackLenses x = new BackLenses();
        due("keep(0)", x.keep(0), 0);
        due("keep(0)", x.keep(0), 1);
        due("keep(1)", x.keep(1), 0);
        due("keep(1)", x.keep(1), 1);
        due("keep(0)", x.keep(0), 1);
    }

    static void promise38ANewOneIsInPlaceOfTheOld() {
        BackLenses x = busy();
        x.cut(0, 0);
        x.first(1, 0);
        x.forget(0);
        due("keep(0)", x.keep(0), 1);
        x.turn(0, 0, 1);
        due("back(0)", x.back(0), 0);
        due("mark(1, 0)", x.mark(1, 0), 0);
        due("count(0)", x.count(0), 0);
    }

    static void promise38TheOtherStays() {
        BackLenses x = busy();
        x.cut(0, 0);
        due("keep(1)", x.keep(1), 0);
        due("back(0)", x.back(0), 2);
        due("back(1)", x.back(1), 0);
    }

    static void promise38RefusedChangesNothing() {
        BackLenses x = busy();
        x.cut(0, 1);
        unchanged(x, () -> {
            due("keep(2)", x.keep(2), BAD);
            due("keep(-1)", x.keep(-1), BAD);
        });
        due("back(1)", x.back(1), STATE);
        due("back(0)", x.back(0), 2);
    }

    // ---- promise 39: back

    static void promise39ImagesAre0And1() {
        BackLenses x = busy();
        due("back(2)", x.back(2), BAD);
        due("back(-1)", x.back(-1), BAD);
        due("back(least)", x.back(LEAST), BAD);
        due("back(most)", x.back(MOST), BAD);
    }

    static void promise39NoImageIsState() {
        due("back(0)", new BackLenses().back(0), STATE);
        due("back(1)", busy().back(1), STATE);
    }

    static void promise39AllIsAsItWas() {
        BackLenses x = busy();
        String before = state(x);
        x.first(1, 5);
        x.cut(0, 0);
        x.turn(0, 3, 3);
        x.regrind(0, 0);
        x.crack(0, 3, true);
        x.cut(1, 1);
        x.forget(0);
        x.show(0, 0, 5);
        x.show(0, 0, 5);
        due("back(0)", x.back(0), 2);
        due("all is as it was", state(x).equals(before) ? 1 : 0, 1);
    }

    static void promise39IsSeenAtOnce() {
        BackLenses x = new BackLenses();
        x.keep(0);
        x.first(1, 4);
        due("sees(0, 0)", x.sees(0, 0), 75);
        due("back(0)", x.back(0), 0);
        due("sees(0, 0)", x.sees(0, 0), 79);
        due("mark(1, 0)", x.mark(1, 0), 0);
    }

    static void promise39TheImageStaysForTheNextTime() {
        BackLenses x = busy();
        x.back(0);
        x.turn(0, 0, 1);
        x.first(1, 4);
        x.crack(1, 1, true);
        x.show(0, 0, 0);
        due("back(0)", x.back(0), 2);
        due("mark(1, 0)", x.mark(1, 0), 2);
        due("lens(1, 1)", x.lens(1, 1), 0);
        due("count(0)", x.count(0), 1);
        due("count(1)", x.count(1), 1);
    }

    static void promise39AnImageOfNothing() {
        BackLenses x = new BackLenses();
        x.keep(1);
        x.turn(0, 0, 1);
        x.grind(0, 1);
        x.show(0, 0, 1);
        due("back(1)", x.back(1), 0);
        due("rule(4)", x.rule(4), 0);
        due("count(0)", x.count(0), 0);
    }

    static void promise39AnImageThatIsFull() {
        BackLenses x = house("turn0 0 1;".repeat(10) + "lens0;".repeat(6));
        for (int i = 0; i < 8; i++) {
            x.show(0, 0, 1);
        }
        x.keep(0);
        x.cut(0, 0);
        x.cut(1, 0);
        x.forget(0);
        due("back(0)", x.back(0), 10);
        due("rule(4)", x.rule(4), 6);
        due("count(0)", x.count(0), 8);
        due("turn(0, 0, 0)", x.turn(0, 0, 0), FULL);
    }

    static void promise39TheTapeSheetsAndFaultsStay() {
        BackLenses x = busy();
        x.sheet(0, 2, 7);
        x.feed('z');
        x.back(0);
        due("count(2)", x.count(2), 2);
        due("count(3)", x.count(3), 7);
        due("fault()", x.fault(), 2);
        due("torn()", x.torn(), 1);
    }

    static void promise39RefusedChangesNothing() {
        BackLenses x = busy();
        x.turn(0, 3, 3);
        unchanged(x, () -> {
            due("back(2)", x.back(2), BAD);
            due("back(-1)", x.back(-1), BAD);
            due("back(1)", x.back(1), STATE);
        });
    }

    // ---- promise 40: sheet

    static void promise40SheetsAre0To3() {
        BackLenses x = new BackLenses();
        for (int k = 0; k < 4; k++) {
            due("sheet(" + k + ", 0, 1)", x.sheet(k, 0, 1), 1);
            due("lay(" + k + ", 0, 1)", x.lay(k, 0, 1), 1);
        }
        due("sheet(4, 0, 1)", x.sheet(4, 0, 1), BAD);
        due("sheet(-1, 0, 1)", x.sheet(-1, 0, 1), BAD);
        due("sheet(least, 0, 1)", x.sheet(LEAST, 0, 1), BAD);
        due("sheet(most, 0, 1)", x.sheet(MOST, 0, 1), BAD);
    }

    static void promise40LanesAre0To2() {
        BackLenses x = new BackLenses();
        for (int lane = 0; lane < 3; lane++) {
            due("sheet(0, " + lane + ", 3)", x.sheet(0, lane, 3), 1);
            due("read(0, " + lane + ", 0, 1)", x.read(0, lane, 0, 1), 1);
        }
        due("sheet(0, 3, 1)", x.sheet(0, 3, 1), BAD);
        due("sheet(0, -1, 1)", x.sheet(0, -1, 1), BAD);
        due("sheet(0, least, 1)", x.sheet(0, LEAST, 1), BAD);
        due("sheet(0, most, 1)", x.sheet(0, MOST, 1), BAD);
    }

    static void promise40From0To40Cells() {
        BackLenses x = new BackLenses();
        due("sheet(0, 0, 40)", x.sheet(0, 0, 40), 1);
        due("count(3)", x.count(3), 40);
        due("lay(0, 39, 1)", x.lay(0, 39, 1), 1);
        due("lay(0, 40, 1)", x.lay(0, 40, 1), -12);
        due("sheet(0, 0, 0)", x.sheet(0, 0, 0), 1);
        due("count(3)", x.count(3), 0);
        due("lay(0, 0, 1)", x.lay(0, 0, 1), -12);
    }

    static void promise40MoreThan40CellsIsBad() {
        BackLenses x = new BackLenses();
        due("sheet(0, 0, 41)", x.sheet(0, 0, 41), BAD);
        due("sheet(0, 2, most)", x.sheet(0, 2, MOST), BAD);
        due("count(3)", x.count(3), NONE);
    }

    static void promise40FewerThan0CellsIsSize() {
        BackLenses x = new BackLenses();
        due("sheet(0, 0, -1)", x.sheet(0, 0, -1), -14);
        due("sheet(0, 2, least)", x.sheet(0, 2, LEAST), -14);
        due("count(3)", x.count(3), NONE);
    }

    static void promise40BadIsAheadOfSize() {
        BackLenses x = new BackLenses();
        due("sheet(4, 0, -1)", x.sheet(4, 0, -1), BAD);
        due("sheet(-1, 0, -1)", x.sheet(-1, 0, -1), BAD);
        due("sheet(0, 3, -1)", x.sheet(0, 3, -1), BAD);
        due("sheet(0, -1, -1)", x.sheet(0, -1, -1), BAD);
    }

    static void promise40IsANewRowOfCells0() {
        for (int lane = 0; lane < 3; lane++) {
            BackLenses x = laid(lane, 40);
            for (int i = 0; i < 40; i++) {
                x.lay(1, i, 6);
            }
            due("read refused", x.read(1, lane, 0, 1), -20);
            due("sheet(1, " + lane + ", 39)", x.sheet(1, lane, 39), 1);
            for (int f = 0; f < 39; f += 3) {
                x.cut(0, 0);
                due("read from " + f, x.read(1, lane, f, 1), 1);
                due("day, cell, mark", x.change(0, 0) + x.change(0, 1) + x.change(0, 2), 0);
            }
        }
    }

    static void promise40MayBeOfAnotherLane() {
        BackLenses x = laid(0, 3);
        due("sheet(1, 2, 3)", x.sheet(1, 2, 3), 1);
        due("read(1, 0, 0, 1)", x.read(1, 0, 0, 1), 0);
        due("torn()", x.torn(), CAST_FAULT);
        due("read(1, 2, 0, 1)", x.read(1, 2, 0, 1), 1);
    }

    static void promise40RefusedChangesNothing() {
        BackLenses x = busy();
        x.sheet(0, 0, 3);
        x.lay(0, 0, 4);
        unchanged(x, () -> {
            due("sheet(0, 0, 41)", x.sheet(0, 0, 41), BAD);
            due("sheet(0, 3, 9)", x.sheet(0, 3, 9), BAD);
            due("sheet(0, 2, -1)", x.sheet(0, 2, -1), -14);
            due("sheet(4, 2, 9)", x.sheet(4, 2, 9), BAD);
        });
        due("read(0, 0, 0, 1)", x.read(0, 0, 0, 1), 1);
        due("change(2, 0)", x.change(2, 0), 4);
    }

    // ---- promise 41: lay

    static void promise41SheetsAre0To3() {
        BackLenses x = laid(0, 3);
        due("lay(4, 0, 0)", x.lay(4, 0, 0), BAD);
        due("lay(-1, 0, 0)", x.lay(-1, 0, 0), BAD);
        due("lay(least, 0, 0)", x.lay(LEAST, 0, 0), BAD);
        due("lay(most, 0, 0)", x.lay(MOST, 0, 0), BAD);
        due("lay(4, 99, 0)", x.lay(4, 99, 0), BAD);
    }

    static void promise41NothingIsNull() {
        BackLenses x = new BackLenses();
        for (int k = 0; k < 4; k++) {
            due("lay(" + k + ", 0, 0)", x.lay(k, 0, 0), -11);
        }
    }

    static void promise41NullIsAheadOfIndex() {
        BackLenses x = new BackLenses();
        due("lay(0, 40, 0)", x.lay(0, 40, 0), -11);
        due("lay(0, -1, 0)", x.lay(0, -1, 0), -11);
    }

    static void promise41NoSuchCellIsIndex() {
        BackLenses x = laid(2, 3);
        due("lay(1, 2, 0)", x.lay(1, 2, 0), 1);
        due("lay(1, 3, 0)", x.lay(1, 3, 0), -12);
        due("lay(1, -1, 0)", x.lay(1, -1, 0), -12);
        due("lay(1, least, 0)", x.lay(1, LEAST, 0), -12);
        due("lay(1, most, 0)", x.lay(1, MOST, 0), -12);
        due("lay of no cells", laid(0, 0).lay(1, 0, 0), -12);
    }

    static void promise41TheLowestBitsOfAByte() {
        int[] taken = {9, 256 + 9, 65536 + 9, -256 + 9, LEAST + 9};
        for (int v : taken) {
            BackLenses x = laid(0, 3, v);
            due("read", x.read(1, 0, 0, 1), 1);
            due("change(0, 0) of " + v, x.change(0, 0), 9);
        }
        int[] refused = {127, 128, 255, -1, 10};
        for (int v : refused) {
            due("read of " + v, laid(0, 3, v).read(1, 0, 0, 1), -20);
        }
    }

    static void promise41TheLowestBitsOfAShort() {
        int[] taken = {9, 65536 + 9, -65536 + 9, LEAST + 9};
        for (int v : taken) {
            BackLenses x = laid(1, 3, v);
            due("read", x.read(1, 1, 0, 1), 1);
            due("change(0, 0) of " + v, x.change(0, 0), 9);
        }
        int[] refused = {256, 256 + 9, 32768, 65535, -1, 10};
        for (int v : refused) {
            due("read of " + v, laid(1, 3, v).read(1, 1, 0, 1), -20);
        }
    }

    static void promise41AllBitsOfAnInt() {
        BackLenses x = laid(2, 3, 9);
        due("read", x.read(1, 2, 0, 1), 1);
        due("change(0, 0)", x.change(0, 0), 9);
        int[] refused = {256 + 9, 65536 + 9, 65536, LEAST + 9, LEAST, MOST, -1};
        for (int v : refused) {
            due("read of " + v, laid(2, 3, v).read(1, 2, 0, 1), -20);
        }
    }

    static void promise41OtherCellsAndSheetsStay() {
        BackLenses x = laid(0, 6, 1, 2, 3, 4, 5, 1);
        x.sheet(2, 0, 6);
        x.lay(2, 3, 9);
        x.lay(1, 2, 4);
        due("read", x.read(1, 0, 0, 2), 2);
        int[][] want = {{1, 2, 4}, {4, 5, 1}};
        for (int i = 0; i < 2; i++) {
            for (int what = 0; what < 3; what++) {
                due("change(" + i + ", " + what + ")", x.change(i, what), want[i][what]);
            }
        }
    }

    static void promise41RefusedChangesNothing() {
        BackLenses x = laid(0, 3, 1, 2, 3);
        unchanged(x, () -> {
            due("lay(1, 3, 5)", x.lay(1, 3, 5), -12);
            due("lay(1, -1, 5)", x.lay(1, -1, 5), -12);
            due("lay(0, 0, 5)", x.lay(0, 0, 5), -11);
            due("lay(5, 0, 5)", x.lay(5, 0, 5), BAD);
        });
        due("read", x.read(1, 0, 0, 1), 1);
        due("change(0, 0)", x.change(0, 0), 1);
        due("change(0, 2)", x.change(0, 2), 3);
    }

    // ---- promise 42: read

    static void promise42SheetsAre0To3() {
        BackLenses x = laid(0, 3);
        due("read(4, 0, 0, 0)", x.read(4, 0, 0, 0), BAD);
        due("read(-1, 0, 0, 0)", x.read(-1, 0, 0, 0), BAD);
        due("read(least, 0, 0, 1)", x.read(LEAST, 0, 0, 1), BAD);
        due("read(most, 0, 0, 1)", x.read(MOST, 0, 0, 1), BAD);
        x.sheet(3, 0, 3);
        due("read(3, 0, 0, 1)", x.read(3, 0, 0, 1), 1);
    }

    static void promise42LanesAre0To2() {
        BackLenses x = laid(0, 3);
        due("read(1, 3, 0, 0)", x.read(1, 3, 0, 0), BAD);
        due("read(1, -1, 0, 0)", x.read(1, -1, 0, 0), BAD);
        due("read(1, least, 0, 1)", x.read(1, LEAST, 0, 1), BAD);
        due("read(1, most, 0, 1)", x.read(1, MOST, 0, 1), BAD);
        due("read(0, 3, 0, 1) of nothing", x.read(0, 3, 0, 1), BAD);
    }

    static void promise42NIs0To13() {
        BackLenses x = laid(0, 6);
        due("read(1, 0, 0, 0)", x.read(1, 0, 0, 0), 0);
        due("read(1, 0, 0, 13)", x.read(1, 0, 0, 13), 2);
        due("read(1, 0, 0, 14)", x.read(1, 0, 0, 14), BAD);
        due("read(1, 0, 0, -1)", x.read(1, 0, 0, -1), BAD);
        due("read(1, 0, 0, least)", x.read(1, 0, 0, LEAST), BAD);
        due("read(1, 0, 0, most)", x.read(1, 0, 0, MOST), BAD);
        due("rule(3)", x.rule(3), 2);
    }

    static void promise42BadIsAheadOfFaults() {
        BackLenses x = laid(0, 3);
        due("read(0, 0, 0, 14) of nothing", x.read(0, 0, 0, 14), BAD);
        due("read(1, 1, 0, 14) of another lane", x.read(1, 1, 0, 14), BAD);
        due("read(1, 0, 9, 14) behind the end", x.read(1, 0, 9, 14), BAD);
        due("torn()", x.torn(), 0);
    }

    static void promise42NoneIsReadWithN0() {
        BackLenses x = laid(0, 0);
        readIs(x, 0, 0, 0, 0);
        readIs(x, 99, 0, 0, 0);
        readIs(x, LEAST, 0, 0, 0);
    }

    static void promise42TheLastCellMayBeRead() {
        BackLenses x = laid(0, 7, 0, 0, 0, 0, 9, 8, 5);
        x.lay(1, 4, 3);
        due("read(1, 0, 4, 1)", x.read(1, 0, 4, 1), 1);
        due("torn()", x.torn(), 0);
        due("change(0, 0)", x.change(0, 0), 3);
        due("change(0, 1)", x.change(0, 1), 8);
        due("change(0, 2)", x.change(0, 2), 5);
        due("rule(3)", x.rule(3), 1);
    }

    static void promise42OneCellTooFewIsIndex() {
        for (int f = 5; f <= 8; f++) {
            readIs(laid(0, 7), f, 1, 0, INDEX_FAULT);
        }
        readIs(laid(0, 2), 0, 1, 0, INDEX_FAULT);
        readIs(laid(0, 1), 0, 1, 0, INDEX_FAULT);
        readIs(laid(0, 0), 0, 1, 0, INDEX_FAULT);
    }

    static void promise42ACellBelow0IsIndex() {
        for (int f = -1; f >= -4; f--) {
            readIs(laid(0, 7), f, 3, 0, INDEX_FAULT);
        }
    }

    static void promise42PlacesThatWrapAroundAreIndex() {
        int[] far = {MOST, MOST - 1, MOST - 2, MOST - 3, LEAST, LEAST + 1, MOST / 3, 40};
        for (int f : far) {
            readIs(laid(0, 40), f, 13, 0, INDEX_FAULT);
        }
    }

    static void promise42ThoseThatWereWholeAheadCome() {
        BackLenses x = laid(0, 8, 1, 1, 1, 2, 2, 2, 10, 10);
        readIs(x, 0, 3, 2, INDEX_FAULT);
        due("rule(3)", x.rule(3), 2);
        due("change(0, 0)", x.change(0, 0), 1);
        due("change(1, 0)", x.change(1, 0), 2);
        due("mark(2, 2)", x.mark(2, 2), 2);
    }

    static void promise42AnotherLaneIsCast() {
        for (int lane = 0; lane < 3; lane++) {
            for (int as = 0; as < 3; as++) {
                BackLenses x = laid(lane, 3);
                due("read of " + lane + " as " + as, x.read(1, as, 0, 1), lane == as ? 1 : 0);
                due("torn()", x.torn(), lane == as ? 0 : CAST_FAULT);
            }
        }
    }

    static void promise42CastIsAheadOfIndexAndTurn() {
        BackLenses x = laid(2, 3, 10, 10, 10);
        due("read(1, 0, 0, 1)", x.read(1, 0, 0, 1), 0);
        due("torn()", x.torn(), CAST_FAULT);
        due("read(1, 0, 99, 1)", x.read(1, 0, 99, 1), 0);
        due("torn()", x.torn(), CAST_FAULT);
        due("rule(3)", x.rule(3), 0);
    }

    static void promise42NothingIsNullOfEachLane() {
        for (int lane = 0; lane < 3; lane++) {
            BackLenses x = new BackLenses();
            due("read(0, " + lane + ", 0, 1)", x.read(0, lane, 0, 1), 0);
            due("torn()", x.torn(), NULL_FAULT);
            due("read(0, " + lane + ", -1, 13)", x.read(0, lane, -1, 13), 0);
            due("torn()", x.torn(), NULL_FAULT);
        }
    }

    static void promise42TheFirstIsRefusedByTurn() {
        int[][] bad = {{10, 0, 0}, {-1, 0, 0}, {0, 9, 0}, {0, -1, 0}, {0, 0, 6}, {0, 0, -1}, {0, 0, NONE}};
        for (int[] row : bad) {
            BackLenses x = laid(0, 6, row);
            due("read(1, 0, 0, 2)", x.read(1, 0, 0, 2), -20);
            due("rule(3)", x.rule(3), 0);
        }
        int[][] good = {{9, 0, 0}, {0, 8, 0}, {0, 0, 5}};
        for (int[] row : good) {
            due("read(1, 0, 0, 2)", laid(0, 6, row).read(1, 0, 0, 2), 2);
        }
    }

    static void promise42TheThirteenthIsRefusedByTurn() {
        BackLenses x = laid(0, 40);
        due("read(1, 0, 0, 13)", x.read(1, 0, 0, 13), -30);
        due("rule(3)", x.rule(3), 0);
        x.lay(1, 36, 10);
        due("read(1, 0, 9, 10)", x.read(1, 0, 9, 10), -29);
        due("rule(3)", x.rule(3), 0);
    }

    static void promise42ThenNoneCame() {
        BackLenses x = laid(0, 9, 1, 1, 1, 2, 2, 2, 3, 3, 6);
        x.turn(5, 5, 5);
        due("read(1, 0, 0, 3)", x.read(1, 0, 0, 3), -22);
        due("rule(3)", x.rule(3), 1);
        due("change(0, 0)", x.change(0, 0), 5);
        due("mark(1, 1)", x.mark(1, 1), 0);
        due("read(1, 0, 0, 2)", x.read(1, 0, 0, 2), 2);
        due("rule(3)", x.rule(3), 3);
    }

    static void promise42FullIsRefusedToo() {
        BackLenses x = laid(0, 40);
        due("ten", x.read(1, 0, 0, 10), 10);
        due("the eleventh", x.read(1, 0, 0, 1), -20);
        x.cut(0, 8);
        due("behind two", x.read(1, 0, 0, 3), -22);
        due("rule(3)", x.rule(3), 8);
        due("just two", x.read(1, 0, 0, 2), 2);
        due("rule(3)", x.rule(3), 10);
    }

    static void promise42TheFirstMet() {
        BackLenses x = laid(0, 8, 1, 1, 1, 2, 2, 6);
        due("refused ahead of index", x.read(1, 0, 0, 3), -21);
        due("torn()", x.torn(), 0);
        x.lay(1, 5, 2);
        x.lay(1, 6, 99);
        due("index ahead of what is not whole", x.read(1, 0, 0, 3), 2);
        due("torn()", x.torn(), INDEX_FAULT);
        x.cut(0, 0);
        x.turn(0, 0, 0);
        for (int i = 0; i < 8; i++) {
            x.turn(0, 0, 0);
        }
        due("full ahead of index", x.read(1, 0, 0, 3), -21);
        x.cut(0, 8);
        due("index ahead of full", x.read(1, 0, 0, 3), 2);
    }

    static void promise42IsSeenAtOnce() {
        BackLenses x = laid(0, 3, 3, 1, 4);
        due("sees(0, 3)", x.sees(0, 3), 79);
        due("read(1, 0, 0, 1)", x.read(1, 0, 0, 1), 1);
        due("sees(0, 3)", x.sees(0, 3), 75);
        due("sees(0, 2)", x.sees(0, 2), 79);
    }

    static void promise42OfTheHouseThatThereIs() {
        BackLenses x = house("house 2 2;last 1;");
        x.sheet(1, 0, 6);
        x.lay(1, 0, 1);
        x.lay(1, 1, 3);
        due("day 1, cell 3", x.read(1, 0, 0, 1), 1);
        x.lay(1, 0, 2);
        due("day 2", x.read(1, 0, 0, 1), -20);
        x.lay(1, 0, 1);
        x.lay(1, 1, 4);
        due("cell 4", x.read(1, 0, 0, 1), -20);
    }

    static void promise42RefusedChangesNothing() {
        BackLenses x = busy();
        x.lay(0, 0, 1);
        x.lay(0, 4, 6);
        unchanged(x, () -> {
            due("read(0, 0, 2, 1)", x.read(0, 0, 2, 1), -20);
            due("read(4, 0, 0, 1)", x.read(4, 0, 0, 1), BAD);
            due("read(0, 3, 0, 1)", x.read(0, 3, 0, 1), BAD);
            due("read(0, 0, 0, 14)", x.read(0, 0, 0, 14), BAD);
        });
    }

    // ---- promise 43: torn

    static void promise43IsThatOfTheLatestRead() {
        BackLenses x = laid(0, 6);
        due("torn()", x.torn(), 0);
        x.read(1, 0, 6, 1);
        due("torn()", x.torn(), INDEX_FAULT);
        x.read(1, 1, 0, 1);
        due("torn()", x.torn(), CAST_FAULT);
        x.read(0, 0, 0, 1);
        due("torn()", x.torn(), NULL_FAULT);
        x.read(1, 0, 0, 1);
        due("torn()", x.torn(), 0);
    }

    static void promise43Is0BehindAReadOfNone() {
        BackLenses x = laid(0, 6);
        x.read(1, 0, 6, 1);
        due("torn()", x.torn(), INDEX_FAULT);
        x.read(1, 0, 6, 0);
        due("torn()", x.torn(), 0);
    }

    static void promise43ABadReadDoesNotCount() {
        BackLenses x = laid(0, 6);
        x.read(1, 0, 6, 1);
        x.read(4, 0, 0, 1);
        x.read(1, 3, 0, 1);
        x.read(1, 0, 0, 14);
        due("torn()", x.torn(), INDEX_FAULT);
    }

    static void promise43AReadThatTurnRefusedDoesNotCount() {
        BackLenses x = laid(0, 6, 10);
        x.read(1, 0, 6, 1);
        due("read(1, 0, 0, 1)", x.read(1, 0, 0, 1), -20);
        due("torn()", x.torn(), INDEX_FAULT);
    }

    static void promise43FaultsOfLayAndSheetDoNotCount() {
        BackLenses x = laid(0, 6);
        x.read(1, 1, 0, 1);
        x.lay(1, 6, 0);
        x.lay(0, 0, 0);
        x.sheet(1, 0, -1);
        due("torn()", x.torn(), CAST_FAULT);
    }

    // ---- promise 44: count

    static void promise44WhatIs0To5() {
        BackLenses x = busy();
        due("count(6)", x.count(6), BAD);
        due("count(-1)", x.count(-1), BAD);
        due("count(least)", x.count(LEAST), BAD);
        due("count(most)", x.count(MOST), BAD);
        int[] counts = {1, 1, 1, 5, 5, 2};
        for (int what = 0; what < counts.length; what++) {
            due("count(" + what + ")", x.count(what), counts[what]);
        }
    }

    static void promise44ShownFrom0To8() {
        BackLenses x = new BackLenses();
        for (int i = 0; i < 8; i++) {
            due("count(0)", x.count(0), i);
            x.show(0, 0, 0);
        }
        x.show(0, 0, 0);
        due("count(0)", x.count(0), 8);
    }

    static void promise44ImagesFrom0To2() {
        BackLenses x = new BackLenses();
        due("count(1)", x.count(1), 0);
        x.keep(1);
        due("count(1)", x.count(1), 1);
        x.keep(1);
        due("count(1)", x.count(1), 1);
        x.keep(0);
        due("count(1)", x.count(1), 2);
    }

    static void promise44BytesFrom0To160() {
        BackLenses x = new BackLenses();
        due("count(2)", x.count(2), 0);
        feedAll(x, padded("", TAPE + 1));
        due("count(2)", x.count(2), 160);
    }

    static void promise44CellsOfSheet0() {
        BackLenses x = new BackLenses();
        x.sheet(1, 0, 7);
        due("count(3) of nothing", x.count(3), NONE);
        x.sheet(0, 1, 0);
        due("count(3) of no cells", x.count(3), 0);
        x.sheet(0, 2, 40);
        due("count(3)", x.count(3), 40);
    }

    static void promise44DaysThatFitFrom0ToAll() {
        BackLenses x = new BackLenses();
        due("count(4)", x.count(4), 10);
        x.show(0, 0, 5);
        due("count(4)", x.count(4), 0);
        due("count(4) to LAST 0", house("last 0;").count(4), 1);
    }

    static void promise44DaysOnWhichSomethingChanges() {
        due("none", new BackLenses().count(5), 0);
        due("LAST 0", house("last 0;turn 0 0 1;").count(5), 0);
        due("day 0 has no day before", house("turn 0 0 1;").count(5), 0);
        due("the last day", house("turn 9 0 1;").count(5), 1);
        due("to the same", house("turn 3 0 0;").count(5), 0);
        due("there and back on one day", house("turn 3 0 1;turn 3 0 0;").count(5), 0);
        due("two on one day", house("turn 3 0 1;turn 3 1 1;").count(5), 1);
        due("all but day 0", house("turn1 0 1;turn2 0 2;turn3 0 3;turn4 0 4;turn5 0 5;turn6 0 0;turn7 0 1;"
            + "turn8 0 2;turn9 0 3;").count(5), 9);
    }
}
