import java.util.function.IntFunction;

/** Promises 16 and 18 to 26 at their bounds: the title's place, images, ghosts and what-if questions. */
public final class ImageBoundsTest {
    private static final int NONE = EyeStage.NONE;

    private ImageBoundsTest() {
    }

    public static void main(String[] args) {
        Check.promises(ImageBoundsTest.class);
    }

    /** A frame in which the shift of a box is its depth, as long as that is within the first budget, -5 to 5. */
    private static EyeStage stage(int width, int height) {
        EyeStage s = new EyeStage();
        s.begin(width, height);
        s.set(0, 100);
        return s;
    }

    private static EyeStage stage() {
        return stage(30, 12);
    }

    /** The same with the budget -20 to 20. */
    private static EyeStage wide(int width, int height) {
        EyeStage s = stage(width, height);
        s.set(1, 5);
        s.addScene(-20, 20, 50);
        s.tick(3);
        return s;
    }

    /** The same with the budget 0 to 0. */
    private static EyeStage flat() {
        EyeStage s = stage();
        s.set(1, 5);
        s.addScene(0, 0, 1);
        s.tick(1);
        return s;
    }

    /** A group 0 with the box 1 in it and the box 2 beside it, and a leak of 100. */
    private static EyeStage furnished() {
        EyeStage s = stage();
        s.set(3, 100);
        s.addGroup(NONE, 0, 0, 0);
        s.addBox(0, 5, 3, 2, 4, 2);
        s.addBox(NONE, 15, 5, 4, 3, 2);
        return s;
    }

    private static void titleIs(String what, EyeStage s, int row, int shift, int left, int right) {
        Check.same(what + ": row", s.title(3), row);
        Check.same(what + ": shift", s.title(4), shift);
        Check.same(what + ": left", s.title(5), left);
        Check.same(what + ": right", s.title(6), right);
    }

    private static void noTitle(String what, EyeStage s) {
        titleIs(what, s, NONE, NONE, NONE, NONE);
    }

    /** The title at (6, 5), six cells long, over one box. */
    private static EyeStage titleOver(int x, int y, int shift, int width, int height) {
        EyeStage s = stage();
        s.setTitle(6, 5, 6);
        s.addBox(NONE, x, y, shift, width, height);
        return s;
    }

    // ---- promise 16: title

    static void promise16WhatFrom0To6() {
        Check.valueBounds(0, 6, ImageBoundsTest::stage, EyeStage::title);
        Check.valueBounds(0, 6, () -> titleOver(0, 0, 0, 1, 1), EyeStage::title);
    }

    static void promise16NoneWithoutATitle() {
        EyeStage s = stage();
        for (int what = 0; what <= 6; what++) {
            Check.same("without, " + what, s.title(what), NONE);
        }
        s.setTitle(0, 0, 1);
        for (int what = 0; what <= 6; what++) {
            Check.differs("with one, " + what, s.title(what), NONE);
        }
        s.clearTitle();
        Check.same("without again", s.title(0), NONE);
    }

    static void promise16NoneFor3To6IfItIsNotShown() {
        EyeStage s = stage();
        s.setTitle(29, 11, 2);
        int[] due = {29, 11, 2, NONE, NONE, NONE, NONE};
        for (int what = 0; what <= 6; what++) {
            Check.same("not shown, " + what, s.title(what), due[what]);
        }
        s.setTitle(28, 11, 2);
        int[] shown = {28, 11, 2, 11, 0, 28, 28};
        for (int what = 0; what <= 6; what++) {
            Check.same("shown, " + what, s.title(what), shown[what]);
        }
    }

    static void promise16TheShiftIsGreaterThanThatOfTheBox() {
        // The box covers the title with every shift.
        titleIs("-1", titleOver(0, 5, -1, 30, 1), 5, 0, 6, 6);
        titleIs("0", titleOver(1, 5, 0, 29, 1), 5, 1, 7, 6);
        titleIs("1", titleOver(2, 5, 1, 24, 1), 5, 2, 7, 5);
        titleIs("4", titleOver(3, 5, 4, 20, 1), 5, 5, 9, 4);
    }

    static void promise16TheGreatestShiftIsThatOfTheBudget() {
        titleIs("4, just possible", titleOver(3, 5, 4, 20, 1), 5, 5, 9, 4);
        titleIs("5, one row up", titleOver(3, 5, 5, 20, 1), 4, 0, 6, 6);
        EyeStage least = flat();
        least.setTitle(6, 5, 6);
        titleIs("budget 0", least, 5, 0, 6, 6);
        least.addBox(NONE, 6, 5, 0, 1, 1);
        titleIs("budget 0, one row up", least, 4, 0, 6, 6);
        EyeStage greatest = wide(80, 12);
        greatest.setTitle(30, 5, 5);
        // The columns 20 to 79 on the left and 1 to 60 on the right cover the title with every shift.
        greatest.addBox(NONE, 10, 5, 19, 60, 1);
        titleIs("budget 20", greatest, 5, 20, 40, 20);
        greatest.move(0, 10, 5, 20);
        titleIs("budget 20, one row up", greatest, 4, 0, 30, 30);
    }

    static void promise16TheLeastShiftOfThoseThatArePossible() {
        EyeStage s = titleOver(12, 5, 2, 1, 1);
        // The box has the column 13 on the left and 11 on the right: with 0 and 1 the title takes it on the
        // right, with 2 it takes neither, though its shift is that of the box.
        titleIs("2 beside the box", s, 5, 2, 7, 5);
    }

    static void promise16OnlyBoxesThatHaveOneOfItsCells() {
        titleIs("left of it", titleOver(5, 5, 0, 1, 1), 5, 0, 6, 6);
        titleIs("its first cell", titleOver(6, 5, 0, 1, 1), 5, 1, 7, 6);
        titleIs("its last cell", titleOver(11, 5, 0, 1, 1), 5, 1, 7, 6);
        titleIs("right of it", titleOver(12, 5, 0, 1, 1), 5, 0, 6, 6);
        titleIs("up to the row above", titleOver(6, 2, 0, 1, 3), 5, 0, 6, 6);
        titleIs("up to its row", titleOver(6, 3, 0, 1, 3), 5, 1, 7, 6);
        titleIs("from its row on", titleOver(6, 5, 0, 1, 3), 5, 1, 7, 6);
        titleIs("from the row below on", titleOver(6, 6, 0, 1, 3), 5, 0, 6, 6);
        EyeStage group = stage();
        group.setTitle(6, 5, 6);
        group.addGroup(NONE, 6, 5, 5);
        titleIs("a group", group, 5, 0, 6, 6);
    }

    static void promise16EachImageCountsForItself() {
        // With the shift 2 a box stands one column to the right on the left, and one to the left on the right.
        titleIs("neither, 5 and 3", titleOver(4, 5, 2, 1, 1), 5, 0, 6, 6);
        titleIs("the left image alone, 6 and 4", titleOver(5, 5, 2, 1, 1), 5, 1, 7, 6);
        titleIs("both, 7 and 5 after 6", titleOver(6, 5, 2, 1, 1), 5, 3, 8, 5);
        titleIs("the right image alone, 12 and 10", titleOver(11, 5, 2, 1, 1), 5, 3, 8, 5);
        titleIs("neither, 14 and 12", titleOver(13, 5, 2, 1, 1), 5, 0, 6, 6);
    }

    static void promise16BoxesThatAnotherOneHides() {
        EyeStage s = titleOver(3, 5, 4, 20, 1);
        s.addBox(NONE, 3, 5, 2, 20, 1);
        s.addBox(NONE, 3, 5, 2, 20, 1);
        titleIs("ahead of all of them", s, 5, 5, 9, 4);
        s.move(0, 3, 5, 2);
        titleIs("all the same", s, 5, 3, 8, 5);
    }

    static void promise16RowByRowUpToTheRow0() {
        titleIs("the row 5 is taken", titleOver(3, 5, 5, 20, 1), 4, 0, 6, 6);
        titleIs("the rows 3 to 5 are taken", titleOver(3, 3, 5, 20, 3), 2, 0, 6, 6);
        titleIs("the rows 1 to 5 are taken", titleOver(3, 1, 5, 20, 5), 0, 0, 6, 6);
        noTitle("the rows 0 to 5 are taken", titleOver(3, 0, 5, 20, 6));
    }

    static void promise16NeverARowBelow() {
        EyeStage s = stage();
        s.setTitle(6, 0, 6);
        titleIs("the row 0 alone", s, 0, 0, 6, 6);
        s.addBox(NONE, 3, 0, 5, 20, 1);
        noTitle("the row 0 is taken", s);
    }

    static void promise16AGreaterShiftComesBeforeAnotherRow() {
        EyeStage s = titleOver(3, 5, 4, 20, 1);
        titleIs("the row 4 is free", s, 5, 5, 9, 4);
        s.addBox(NONE, 3, 4, 3, 20, 1);
        s.move(0, 3, 5, 5);
        titleIs("the row 4 with a shift", s, 4, 4, 8, 4);
    }

    static void promise16NotOutsideAtTheRight() {
        EyeStage s = stage();
        s.setTitle(24, 0, 6);
        titleIs("up to the last column", s, 0, 0, 24, 24);
        s.setTitle(25, 0, 6);
        noTitle("one column beyond", s);
        s.addBox(NONE, 20, 0, 0, 10, 1);
        s.setTitle(23, 0, 6);
        titleIs("with the shift 1 up to the last column", s, 0, 1, 24, 23);
        s.setTitle(24, 0, 6);
        noTitle("with the shift 1 one column beyond", s);
    }

    static void promise16NotOutsideAtTheLeft() {
        EyeStage s = stage();
        s.addBox(NONE, 0, 0, 1, 10, 1);
        // On the left the box has the columns 1 to 10, on the right 0 to 9; it needs the shift 2.
        s.setTitle(1, 0, 3);
        titleIs("from the column 0 on the right", s, 0, 2, 2, 0);
        s.setTitle(0, 0, 3);
        noTitle("one column outside on the right", s);
        s.removeNode(0);
        titleIs("with the shift 0", s, 0, 0, 0, 0);
    }

    static void promise16LengthFrom1To40() {
        EyeStage s = stage(40, 10);
        s.setTitle(0, 9, 40);
        titleIs("40 of 40 columns", s, 9, 0, 0, 0);
        s.setTitle(1, 9, 40);
        noTitle("40 of 39 columns", s);
        s.setTitle(39, 9, 1);
        titleIs("one column", s, 9, 0, 39, 39);
        EyeStage small = stage(20, 10);
        small.setTitle(0, 9, 20);
        titleIs("20 of 20 columns", small, 9, 0, 0, 0);
        small.setTitle(0, 9, 21);
        noTitle("21 of 20 columns", small);
    }

    static void promise16NotMaskedAtTheLeft() {
        EyeStage s = stage();
        s.addBox(NONE, -3, 0, 3, 5, 1);
        Check.same("a", s.whole(10), 3);
        s.setTitle(3, 9, 2);
        titleIs("from a on", s, 9, 0, 3, 3);
        s.setTitle(2, 9, 2);
        titleIs("from a on with the shift 1", s, 9, 1, 3, 2);
        s.setTitle(1, 9, 2);
        // The shift 3 comes to 3 on the left and to 0 on the right; the least one, 1 or 2, to 2.
        titleIs("from a on with the shift 3", s, 9, 3, 3, 0);
        s.setTitle(0, 9, 2);
        noTitle("masked or outside", s);
    }

    static void promise16NotMaskedAtTheRight() {
        EyeStage s = stage();
        s.addBox(NONE, 28, 0, 3, 5, 1);
        Check.same("b", s.whole(11), 3);
        s.setTitle(25, 9, 2);
        titleIs("up to W - b - 1", s, 9, 0, 25, 25);
        s.setTitle(26, 9, 2);
        titleIs("up to W - b - 1 with the shift 2", s, 9, 2, 27, 25);
        s.setTitle(27, 9, 2);
        // The shift 4 comes to 25 on the right, and to 29 and the column 30 on the left.
        noTitle("masked or outside", s);
        s.setTitle(27, 9, 1);
        titleIs("one cell", s, 9, 2, 28, 26);
    }

    static void promise16NotInAnImageThatIsMaskedWholly() {
        EyeStage s = wide(20, 10);
        s.setTitle(5, 5, 1);
        titleIs("without masks", s, 5, 0, 5, 5);
        s.addBox(NONE, -11, 0, 20, 3, 1);
        Check.same("a", s.whole(10), 20);
        noTitle("a = W", s);
        s.move(0, 29, 0, 20);
        Check.same("b", s.whole(11), 20);
        noTitle("b = W", s);
    }

    static void promise16ColumnsOfEvenAndOddShifts() {
        int[] left = {6, 7, 7, 8, 8, 9};
        int[] right = {6, 6, 5, 5, 4, 4};
        for (int shift = 1; shift <= 5; shift++) {
            titleIs("shift " + shift, titleOver(3, 5, shift - 1, 20, 1), 5, shift, left[shift], right[shift]);
        }
    }

    // ---- promise 18: shade

    private static void cellsAre(String what, IntFunction<Integer> cell, int from, int... due) {
        for (int n = 0; n < due.length; n++) {
            Check.same(what + " " + (from + n), cell.apply(from + n), due[n]);
        }
    }

    static void promise18CellsOfTheLeastFrame() {
        for (boolean left : new boolean[] {true, false}) {
            Check.indexBounds(0, 19, () -> stage(20, 10), (s, column) -> s.shade(left, column, 9));
            Check.indexBounds(0, 9, () -> stage(20, 10), (s, row) -> s.shade(left, 19, row));
        }
    }

    static void promise18CellsOfTheGreatestFrame() {
        for (boolean left : new boolean[] {true, false}) {
            Check.indexBounds(0, 199, () -> stage(200, 120), (s, column) -> s.shade(left, column, 119));
            Check.indexBounds(0, 119, () -> stage(200, 120), (s, row) -> s.shade(left, 199, row));
        }
    }

    static void promise18MaskedCellsAre0() {
        EyeStage s = stage();
        s.addBox(NONE, -1, 0, 3, 5, 2);
        s.addBox(NONE, 28, 0, 2, 5, 2);
        Check.same("a", s.whole(10), 3);
        Check.same("b", s.whole(11), 2);
        cellsAre("left, background", c -> s.shade(true, c, 11), 0, 0, 0, 0, 4, 4);
        cellsAre("left, box at 1", c -> s.shade(true, c, 0), 0, 0, 0, 0, 8, 8, 8, 4);
        cellsAre("left, not masked at the right", c -> s.shade(true, c, 11), 27, 4, 4, 4);
        cellsAre("right, not masked at the left", c -> s.shade(false, c, 11), 0, 4, 4);
        cellsAre("right, background", c -> s.shade(false, c, 11), 26, 4, 4, 0, 0);
        cellsAre("right, box at 27", c -> s.shade(false, c, 0), 26, 4, 8, 0, 0);
    }

    static void promise18CellsOfTheTitleAre15() {
        EyeStage s = titleOver(3, 5, 4, 20, 1);
        // Its shift is 5: the columns 9 to 14 on the left, 4 to 9 on the right; the box is at 5 and at 1.
        cellsAre("left", c -> s.shade(true, c, 5), 7, 8, 8, 15, 15, 15, 15, 15, 15, 8, 8);
        cellsAre("right", c -> s.shade(false, c, 5), 2, 8, 8, 15, 15, 15, 15, 15, 15, 8, 8);
        Check.same("above", s.shade(true, 9, 4), 4);
        Check.same("below", s.shade(true, 9, 6), 4);
    }

    static void promise18ATitleThatIsNotShownHasNoCells() {
        EyeStage s = stage();
        s.setTitle(24, 11, 6);
        Check.same("shown", s.shade(true, 24, 11), 15);
        s.setTitle(25, 11, 6);
        for (int column = 0; column < 30; column++) {
            Check.same("not shown, left " + column, s.shade(true, column, 11), 4);
            Check.same("not shown, right " + column, s.shade(false, column, 0), 4);
        }
    }

    static void promise18ABoxFromItsFirstToItsLastCell() {
        EyeStage s = stage();
        s.addBox(NONE, 5, 3, 3, 4, 2);
        cellsAre("left", c -> s.shade(true, c, 3), 6, 4, 8, 8, 8, 8, 4);
        cellsAre("right", c -> s.shade(false, c, 4), 3, 4, 8, 8, 8, 8, 4);
        cellsAre("column 7, rows", r -> s.shade(true, 7, r), 2, 4, 8, 8, 4);
    }

    static void promise18TheBoxWithTheGreatestShift() {
        EyeStage s = stage();
        s.addBox(NONE, 5, 3, 1, 8, 1);
        s.addBox(NONE, 5, 3, 0, 8, 1);
        s.setShade(0, 1);
        s.setShade(1, 2);
        cellsAre("left", c -> s.shade(true, c, 3), 4, 4, 2, 1, 1, 1, 1, 1, 1, 1, 1, 4);
        cellsAre("right", c -> s.shade(false, c, 3), 4, 4, 1, 1, 1, 1, 1, 1, 1, 1, 4);
        s.move(1, 5, 3, 2);
        cellsAre("left, 2 ahead", c -> s.shade(true, c, 3), 5, 4, 2, 2);
        cellsAre("right, 2 ahead", c -> s.shade(false, c, 3), 3, 4, 2, 2, 2, 2, 2, 2, 2, 2, 1, 4);
    }

    static void promise18OfEqualShiftsTheGreatestNumber() {
        EyeStage s = stage();
        s.addBox(NONE, 5, 3, 2, 8, 1);
        s.addBox(NONE, 7, 3, 2, 8, 1);
        s.setShade(0, 1);
        s.setShade(1, 2);
        cellsAre("left", c -> s.shade(true, c, 3), 7, 1, 2);
        cellsAre("right", c -> s.shade(false, c, 3), 5, 1, 2);
        s.setShade(1, 0);
        cellsAre("a shade of 0 covers too", c -> s.shade(true, c, 3), 7, 1, 0);
    }

    static void promise18BoxesBeyondTheFramesEdges() {
        EyeStage s = stage();
        s.addBox(NONE, -50, -50, 0, 100, 100);
        Check.same("first cell", s.shade(true, 0, 0), 8);
        Check.same("last cell", s.shade(false, 29, 11), 8);
        s.move(0, -99, -99, 0);
        Check.same("its last cell is the first one", s.shade(true, 0, 0), 8);
        Check.same("beside it", s.shade(true, 1, 0), 4);
        Check.same("below it", s.shade(true, 0, 1), 4);
        s.move(0, 29, 11, 0);
        Check.same("its first cell is the last one", s.shade(false, 29, 11), 8);
        Check.same("left of it", s.shade(false, 28, 11), 4);
        Check.same("above it", s.shade(false, 29, 10), 4);
        s.move(0, -100, 0, 0);
        Check.same("outside", s.shade(true, 0, 0), 4);
    }

    // ---- promise 19: shown

    static void promise19CellsOfTheFrame() {
        for (boolean left : new boolean[] {true, false}) {
            Check.indexBounds(0, 19, () -> stage(20, 10), (s, column) -> s.shown(left, column, 9));
            Check.indexBounds(0, 9, () -> stage(20, 10), (s, row) -> s.shown(left, 19, row));
            Check.indexBounds(0, 199, () -> stage(200, 120), (s, column) -> s.shown(left, column, 119));
            Check.indexBounds(0, 119, () -> stage(200, 120), (s, row) -> s.shown(left, 199, row));
        }
    }

    static void promise19NoneForTheBackground() {
        EyeStage s = stage();
        Check.same("no box", s.shown(true, 5, 3), NONE);
        s.addGroup(NONE, 5, 3, 0);
        Check.same("a group", s.shown(true, 5, 3), NONE);
        s.addBox(0, 0, 0, 3, 4, 2);
        cellsAre("left", c -> s.shown(true, c, 3), 6, NONE, 1, 1, 1, 1, NONE);
        cellsAre("right", c -> s.shown(false, c, 4), 3, NONE, 1, 1, 1, 1, NONE);
        cellsAre("column 7, rows", r -> s.shown(true, 7, r), 2, NONE, 1, 1, NONE);
    }

    static void promise19WhateverTheMasksAre() {
        EyeStage s = stage();
        s.addBox(NONE, -1, 0, 3, 5, 2);
        s.addBox(NONE, 28, 0, 2, 5, 2);
        // The boxes have the columns 1 to 5 and 29 on the left, 0 to 2 and 27 to 29 on the right.
        cellsAre("left, masked up to 2", c -> s.shown(true, c, 0), 0, NONE, 0, 0, 0, 0, 0, NONE);
        cellsAre("right, masked from 28 on", c -> s.shown(false, c, 0), 26, NONE, 1, 1, 1);
        EyeStage all = wide(20, 10);
        all.addBox(NONE, -11, 0, 20, 3, 1);
        Check.same("all columns are masked", all.shown(true, 1, 0), 0);
        Check.same("the next one", all.shown(true, 2, 0), NONE);
    }

    static void promise19WhateverTheTitleIs() {
        EyeStage s = titleOver(3, 5, 4, 4, 1);
        // The box has the columns 5 to 8 and 1 to 4; the title's are 7 .. with the shifts 1 and 2.
        Check.same("the title's shade", s.shade(true, s.title(5), 5), 15);
        cellsAre("left", c -> s.shown(true, c, 5), 4, NONE, 0, 0, 0, 0, NONE);
        cellsAre("right", c -> s.shown(false, c, 5), 0, NONE, 0, 0, 0, 0, NONE);
    }

    static void promise19GreatestShiftThenGreatestNumber() {
        EyeStage s = stage();
        s.addBox(NONE, 5, 3, 1, 8, 1);
        s.addBox(NONE, 5, 3, 0, 8, 1);
        s.addBox(NONE, 9, 3, 1, 8, 1);
        cellsAre("left", c -> s.shown(true, c, 3), 4, NONE, 1, 0, 0, 0, 0, 2, 2);
    }

    // ---- promise 20: ghost

    /** A box with the columns 6 to 7 on the left and 4 to 5 on the right, in a background of 0. */
    private static EyeStage ghostly(int shade, int leak) {
        EyeStage s = stage();
        s.set(2, 0);
        s.set(3, leak);
        s.addBox(NONE, 5, 3, 2, 2, 1);
        s.setShade(0, shade);
        return s;
    }

    static void promise20CellsOfTheFrame() {
        Check.indexBounds(0, 19, () -> stage(20, 10), (s, column) -> s.ghost(column, 9));
        Check.indexBounds(0, 9, () -> stage(20, 10), (s, row) -> s.ghost(19, row));
        Check.indexBounds(0, 199, () -> stage(200, 120), (s, column) -> s.ghost(column, 119));
        Check.indexBounds(0, 119, () -> stage(200, 120), (s, row) -> s.ghost(199, row));
    }

    static void promise20NoLeakAndAllOfIt() {
        Check.same("leak 0", ghostly(15, 0).ghost(6, 3), 0);
        Check.same("leak 1", ghostly(15, 1).ghost(6, 3), 0);
        Check.same("leak 99", ghostly(15, 99).ghost(6, 3), 14);
        Check.same("leak 100", ghostly(15, 100).ghost(6, 3), 15);
    }

    static void promise20RoundedTowardsMinusInfinity() {
        Check.same("9 by 10", ghostly(9, 10).ghost(6, 3), 0);
        Check.same("10 by 10", ghostly(10, 10).ghost(6, 3), 1);
        Check.same("15 by 6", ghostly(15, 6).ghost(6, 3), 0);
        Check.same("15 by 7", ghostly(15, 7).ghost(6, 3), 1);
        Check.same("4 by 49", ghostly(4, 49).ghost(6, 3), 1);
        Check.same("4 by 50", ghostly(4, 50).ghost(6, 3), 2);
    }

    static void promise20TheGreaterShadeMayBeInEitherImage() {
        EyeStage s = ghostly(15, 60);
        cellsAre("row 3", c -> s.ghost(c, 3), 3, 0, 9, 9, 9, 9, 0);
        Check.same("above", s.ghost(6, 2), 0);
        Check.same("below", s.ghost(6, 4), 0);
        EyeStage dark = ghostly(0, 60);
        dark.set(2, 15);
        cellsAre("row 3, dark", c -> dark.ghost(c, 3), 3, 0, 9, 9, 9, 9, 0);
    }

    static void promise20AMaskIsAShadeOf0() {
        EyeStage s = stage();
        s.set(3, 100);
        s.addBox(NONE, -1, 0, 3, 5, 1);
        Check.same("a", s.whole(10), 3);
        cellsAre("row 11", c -> s.ghost(c, 11), 0, 4, 4, 4, 0);
        s.set(2, 0);
        cellsAre("row 11 in front of 0", c -> s.ghost(c, 11), 0, 0, 0, 0, 0);
    }

    // ---- promise 21: ghosts

    static void promise21LeastFrom1To15() {
        Check.valueBounds(1, 15, ImageBoundsTest::furnished, EyeStage::ghosts);
    }

    static void promise21AGhostOfJustThatStrengthCounts() {
        for (int shade = 1; shade <= 15; shade++) {
            EyeStage s = ghostly(shade, 100);
            Check.same("of the shade " + shade, s.ghosts(shade), 4);
            Check.same("of 1 or more, " + shade, s.ghosts(1), 4);
            if (shade < 15) {
                Check.same("stronger than " + shade, s.ghosts(shade + 1), 0);
            }
        }
    }

    static void promise21NoneAndAllCells() {
        EyeStage s = wide(20, 10);
        s.set(2, 15);
        s.set(3, 100);
        Check.same("none", s.ghosts(1), 0);
        // With a = W the left image is 0 all over; on the right the box is outside.
        s.addBox(NONE, -11, 0, 20, 3, 1);
        Check.same("all 200", s.ghosts(15), 200);
        s.set(3, 99);
        Check.same("none of 15", s.ghosts(15), 0);
        Check.same("all of 14", s.ghosts(14), 200);
        EyeStage greatest = wide(200, 120);
        greatest.set(2, 15);
        greatest.set(3, 100);
        greatest.addBox(NONE, -11, 0, 20, 3, 1);
        Check.same("20 columns of 120 rows", greatest.ghosts(15), 2400);
    }

    static void promise21AllRowsAfterALookAtOne() {
        EyeStage s = ghostly(15, 100);
        s.move(0, 5, 0, 2);
        Check.same("after none", s.ghosts(15), 4);
        for (int row = 0; row < 12; row++) {
            s.meanGhost(row);
            Check.same("after the row " + row, s.ghosts(15), 4);
        }
    }

    static void promise21FirstAndLastRowAndColumn() {
        EyeStage s = stage();
        s.set(2, 0);
        s.set(3, 100);
        // With the shift 1 a box stands in its place on the right, and one column further on the left.
        s.addBox(NONE, 0, 0, 1, 1, 1);
        s.addBox(NONE, 28, 11, 1, 1, 1);
        Check.same("two cells each", s.ghosts(8), 4);
        s.move(1, 29, 11, 1);
        Check.same("the left image has it no more", s.ghosts(8), 3);
        s.move(0, -1, 0, 1);
        Check.same("nor the right one the other", s.ghosts(8), 2);
        s.move(1, 29, 12, 1);
        Check.same("below the frame", s.ghosts(8), 1);
    }

    // ---- promise 22: meanGhost

    static void promise22RowsOfTheFrame() {
        Check.indexBounds(0, 9, () -> stage(20, 10), (s, row) -> (long) s.meanGhost(row));
        Check.indexBounds(0, 39, EyeStage::new, (s, row) -> (long) s.meanGhost(row));
        Check.indexBounds(0, 119, () -> stage(200, 120), (s, row) -> (long) s.meanGhost(row));
    }

    static void promise22FromNoGhostToAll() {
        EyeStage s = wide(20, 10);
        s.set(2, 15);
        s.set(3, 100);
        Check.same("none", s.meanGhost(0), 0.0);
        s.addBox(NONE, -11, 0, 20, 3, 1);
        Check.same("all, first row", s.meanGhost(0), 15.0);
        Check.same("all, last row", s.meanGhost(9), 15.0);
    }

    static void promise22TheSumDividedByWAsDoubles() {
        EyeStage s = ghostly(1, 100);
        Check.same("4 of 30", s.meanGhost(3), 4.0 / 30.0);
        Check.same("the row above", s.meanGhost(2), 0.0);
        Check.same("the row below", s.meanGhost(4), 0.0);
        // Each ghost is rounded down by itself: 4 times 13 by 10 is 4, not 5.
        Check.same("rounded cell by cell", ghostly(13, 10).meanGhost(3), 4.0 / 30.0);
        EyeStage greatest = stage(200, 120);
        greatest.set(3, 100);
        greatest.addBox(NONE, 199, 119, 1, 1, 1);
        Check.same("one cell of 200", greatest.meanGhost(119), 4.0 / 200.0);
    }

    static void promise22CellsBesideTheFrameDoNotCount() {
        EyeStage s = stage(200, 120);
        s.set(2, 0);
        s.set(3, 100);
        s.addBox(NONE, 20, 0, 5, 100, 100);
        // The columns 23 to 122 on the left, 18 to 117 on the right.
        Check.same("in all rows", s.ghosts(8), 1000);
        Check.same("five columns on each side", s.meanGhost(0), 80.0 / 200.0);
        s.begin(20, 10);
        Check.same("in a narrower frame", s.meanGhost(0), 0.0);
        Check.same("in all its rows", s.ghosts(1), 0);
        s.addBox(NONE, 18, 0, 5, 100, 100);
        // The columns 21 .. on the left, 16 .. on the right, of which b = 5 masks 15 to 19.
        Check.same("masked", s.meanGhost(9), 0.0);
        s.move(0, 13, 0, 5);
        // The columns 16 to 19 on the left; on the right 11 to 14, and the mask.
        Check.same("four cells on each side", s.meanGhost(9), 64.0 / 20.0);
        Check.same("in all rows", s.ghosts(8), 80);
    }

    static void promise22RowsInAnyOrder() {
        EyeStage s = ghostly(15, 100);
        s.addBox(NONE, 5, 0, 2, 2, 1);
        s.setShade(1, 15);
        int[] sums = {60, 0, 0, 60, 0, 0, 0, 0, 0, 0, 0, 0};
        for (int first = 0; first < 12; first++) {
            for (int second = 0; second < 12; second++) {
                s.meanGhost(first);
                Check.same("the row " + second + " after " + first, s.meanGhost(second), sums[second] / 30.0);
            }
            Check.same("all rows after " + first, s.ghosts(15), 8);
        }
    }

    // ---- promise 23: percentageFor

    static void promise23LeastFromMinus20To0() {
        Check.valueBounds(-20, 0, ImageBoundsTest::furnished, (s, least) -> s.percentageFor(least, 20));
    }

    static void promise23GreatestFrom0To20() {
        Check.valueBounds(0, 20, ImageBoundsTest::furnished, (s, greatest) -> s.percentageFor(-20, greatest));
    }

    static void promise23From0To100() {
        EyeStage s = stage();
        Check.same("without boxes", s.percentageFor(0, 0), 100);
        s.addBox(NONE, 5, 3, 0, 1, 1);
        Check.same("0 in a budget of 0", s.percentageFor(0, 0), 100);
        s.move(0, 5, 3, 1);
        Check.same("1 in a budget of 0", s.percentageFor(0, 0), 99);
        s.move(0, 5, 3, 99);
        Check.same("99 in a budget of 0", s.percentageFor(0, 0), 1);
        s.move(0, 5, 3, 100);
        Check.same("100 in a budget of 0", s.percentageFor(-20, 0), 0);
        s.move(0, 5, 3, -1);
        Check.same("-1 in a budget of 0", s.percentageFor(0, 20), 0);
        Check.same("-1 in a budget of -1", s.percentageFor(-1, 0), 100);
    }

    static void promise23AtTheGreatestBudget() {
        EyeStage s = stage();
        s.addBox(NONE, 5, 3, 20, 1, 1);
        s.addBox(NONE, 5, 3, -20, 1, 1);
        Check.same("20 and -20", s.percentageFor(-20, 20), 100);
        Check.same("20 beyond", s.percentageFor(-20, 19), 99);
        Check.same("-20 beyond", s.percentageFor(-19, 20), 95);
        Check.same("the present one", s.percentageFor(-5, 5), s.whole(9));
    }

    static void promise23ChangesNothing() {
        EyeStage s = furnished();
        long before = s.digest();
        s.percentageFor(0, 0);
        Check.same("digest", s.digest(), before);
    }

    // ---- promise 24: fittingGain

    static void promise24From0To100() {
        EyeStage s = stage();
        Check.same("without boxes", s.fittingGain(), 100);
        s.addGroup(NONE, 0, 0, 200);
        Check.same("groups alone", s.fittingGain(), 100);
        s.addBox(NONE, 5, 3, 5, 1, 1);
        Check.same("5", s.fittingGain(), 100);
        s.move(1, 5, 3, 6);
        Check.same("6", s.fittingGain(), 99);
        s.move(1, 5, 3, -5);
        Check.same("-5", s.fittingGain(), 100);
        s.move(1, 5, 3, -6);
        Check.same("-6", s.fittingGain(), 83);
        EyeStage none = flat();
        none.addBox(NONE, 5, 3, -1, 1, 1);
        Check.same("0 alone is possible", none.fittingGain(), 0);
        none.move(0, 5, 3, 100);
        Check.same("100 in a budget of 0", none.fittingGain(), 0);
        none.move(0, 5, 3, 99);
        Check.same("99 in a budget of 0", none.fittingGain(), 1);
    }

    static void promise24WhateverTheGainIs() {
        EyeStage s = stage();
        s.addBox(NONE, 5, 3, 200, 1, 1);
        for (int gain : new int[] {0, 1, 100}) {
            s.set(0, gain);
            // 200 times 2 is 4, times 3 it is 6.
            Check.same("at the gain " + gain, s.fittingGain(), 2);
        }
        s.set(0, 2);
        Check.same("with it the percentage is 100", s.whole(9), 100);
        s.set(0, 3);
        Check.differs("with more it is less", s.whole(9), 100);
    }

    static void promise24ChangesNothing() {
        EyeStage s = furnished();
        s.move(2, 15, 5, 200);
        long before = s.digest();
        s.fittingGain();
        Check.same("digest", s.digest(), before);
    }

    // ---- promise 25: fullAfter

    static void promise25MostFrom0To200() {
        Check.valueBounds(0, 200, ImageBoundsTest::furnished, EyeStage::fullAfter);
    }

    static void promise25NoneOnlyIfMostIsInItsRange() {
        EyeStage s = stage();
        s.addBox(NONE, 5, 3, 6, 1, 1);
        Check.same("0", s.fullAfter(0), NONE);
        Check.same("200", s.fullAfter(200), NONE);
        Check.badValue("-1", s, () -> s.fullAfter(-1));
        Check.badValue("201", s, () -> s.fullAfter(201));
    }

    static void promise25ZeroIfItIsSoNow() {
        EyeStage s = stage();
        Check.same("without boxes", s.fullAfter(0), 0);
        s.addBox(NONE, 5, 3, 5, 1, 1);
        Check.same("just within", s.fullAfter(0), 0);
        Check.same("with ticks left", s.fullAfter(200), 0);
        s.move(0, 5, 3, 6);
        Check.same("just beyond", s.fullAfter(0), NONE);
        s.move(0, 5, 3, -5);
        Check.same("just within, behind", s.fullAfter(0), 0);
        s.move(0, 5, 3, -6);
        Check.same("just beyond, behind", s.fullAfter(0), NONE);
    }

    static void promise25NoneWithoutScenes() {
        EyeStage s = stage();
        s.addBox(NONE, 5, 3, 6, 1, 1);
        Check.same("without scenes", s.fullAfter(200), NONE);
        s.addScene(0, 6, 1);
        Check.same("with one", s.fullAfter(200), 1);
    }

    static void promise25JustWithinMost() {
        EyeStage s = stage();
        for (int n = 0; n < 4; n++) {
            s.addScene(-5, 5, 50);
        }
        s.addScene(-5, 6, 1);
        s.addBox(NONE, 5, 3, 6, 1, 1);
        Check.same("200", s.fullAfter(200), 200);
        Check.same("199", s.fullAfter(199), NONE);
        s.tick(1);
        Check.same("199 after one tick", s.fullAfter(199), 199);
        Check.same("198 after one tick", s.fullAfter(198), NONE);
        s.tick(198);
        Check.same("0, one tick before", s.fullAfter(0), NONE);
        Check.same("1, one tick before", s.fullAfter(1), 1);
        s.tick(1);
        Check.same("now", s.fullAfter(0), 0);
    }

    static void promise25TheFirstTimeThatItIsSo() {
        EyeStage s = stage();
        s.addScene(-5, 6, 2);
        s.addScene(-5, 5, 50);
        s.addBox(NONE, 5, 3, 6, 1, 1);
        // At time 1 the greatest shift is 6; from time 2 on it is 5 again.
        Check.same("then no more", s.fullAfter(200), 1);
        s.tick(2);
        Check.same("too late", s.fullAfter(200), NONE);
    }

    static void promise25ChangesNothing() {
        EyeStage s = furnished();
        s.addScene(-20, 20, 50);
        s.move(2, 15, 5, 20);
        long before = s.digest();
        Check.same("after", s.fullAfter(200), 15);
        Check.same("digest", s.digest(), before);
    }

    // ---- promise 26: ghostsWithout

    static void promise26NodeIsThere() {
        Check.indexBounds(0, 2, ImageBoundsTest::furnished, (s, node) -> s.ghostsWithout(node, 1));
        EyeStage empty = stage();
        Check.noIndex("in an empty tree", empty, () -> empty.ghostsWithout(0, 1));
        EyeStage full = stage();
        for (int n = 0; n < 20; n++) {
            full.addBox(NONE, 5, n, 1, 1, 1);
        }
        Check.noIndex("node 20", full, () -> full.ghostsWithout(20, 1));
        Check.accepted("node 19", () -> full.ghostsWithout(19, 1));
    }

    static void promise26LeastFrom1To15() {
        Check.valueBounds(1, 15, ImageBoundsTest::furnished, (s, least) -> s.ghostsWithout(2, least));
    }

    static void promise26TheFirstExceptionListedIsThrown() {
        EyeStage s = furnished();
        Check.noIndex("no node, least 0", s, () -> s.ghostsWithout(3, 0));
        Check.noIndex("no node, least 16", s, () -> s.ghostsWithout(-1, 16));
    }

    static void promise26WithoutANodeAndAllThatIsInIt() {
        EyeStage s = furnished();
        s.addGroup(0, 0, 0, 0);
        s.addBox(3, 20, 8, 1, 1, 1);
        // The boxes 1, 2 and 4 have 2 times 4, 2 times 6 and 2 cells with a ghost of 4.
        Check.same("with all", s.ghosts(4), 22);
        Check.same("of 5 or more", s.ghostsWithout(4, 5), 0);
        Check.same("without 4", s.ghostsWithout(4, 4), 20);
        Check.same("without 3", s.ghostsWithout(3, 4), 20);
        Check.same("without 2", s.ghostsWithout(2, 4), 10);
        Check.same("without 1", s.ghostsWithout(1, 4), 14);
        Check.same("without 0", s.ghostsWithout(0, 4), 12);
    }

    static void promise26WithoutTheOnlyNode() {
        EyeStage s = ghostly(15, 100);
        Check.same("with it", s.ghosts(1), 4);
        Check.same("without it", s.ghostsWithout(0, 1), 0);
    }

    static void promise26ThePercentageMayRise() {
        EyeStage s = ghostly(15, 100);
        s.addBox(NONE, 20, 8, -200, 1, 1);
        // With 2 percent, which keep -200 within -5, the shift 2 comes to 0.
        Check.same("with both", s.node(0, 13), 0);
        Check.same("without the second", s.ghostsWithout(1, 15), 4);
    }

    static void promise26TheWindowMayOpen() {
        EyeStage s = stage();
        s.set(3, 100);
        s.addBox(NONE, -3, 0, 3, 5, 1);
        Check.same("three columns and the rest of the box", s.ghosts(4), 3 * 12 + 1);
        Check.same("without the cut box", s.ghostsWithout(0, 1), 0);
    }

    static void promise26TheTitleMayMove() {
        EyeStage s = titleOver(3, 5, 4, 20, 1);
        s.set(3, 100);
        // With the shift 5 it has the columns 9 to 14 and 4 to 9; all but 9 differ by 7 or more, the box by 4.
        Check.same("over the box", s.ghosts(7), 10);
        Check.same("without the box", s.ghostsWithout(0, 1), 0);
    }

    static void promise26ChangesNothing() {
        EyeStage s = furnished();
        long before = s.digest();
        s.ghostsWithout(0, 1);
        Check.same("digest", s.digest(), before);
        s.ghostsWithout(2, 15);
        Check.same("digest again", s.digest(), before);
        Check.same("ghosts", s.ghosts(4), 20);
        Check.same("states left", s.undo(), 3);
    }
}
