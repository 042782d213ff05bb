/** Promises 16 and 18 to 26: the title's place, the images, ghosts, and what-if questions. */
public final class ImageTest {
    private static final int NONE = EyeStage.NONE;

    private ImageTest() {
    }

    public static void main(String[] args) {
        title();
        titleInTheWindow();
        shade();
        shown();
        ghost();
        ghosts();
        meanGhost();
        percentageFor();
        fittingGain();
        fullAfter();
        ghostsWithout();
        Check.end("ImageTest");
    }

    /** A frame of 30 times 12 cells in which the shift of a box is its depth, up to 5. */
    private static EyeStage stage() {
        EyeStage s = new EyeStage();
        s.begin(30, 12);
        s.set(0, 100);
        return s;
    }

    private static void titleIs(String what, EyeStage s, int row, int shift, int left, int right) {
        Check.same(what + ": row", s.title(3), row);
        Check.same(what + ": shift", s.title(4), shift);
        Check.same(what + ": left", s.title(5), left);
        Check.same(what + ": right", s.title(6), right);
    }

    private static void title() {
        EyeStage s = stage();
        Check.badValue("what -1", s, () -> s.title(-1));
        Check.badValue("what 7", s, () -> s.title(7));
        Check.same("none", s.title(0), NONE);
        s.setTitle(6, 5, 6);
        titleIs("alone", s, 5, 0, 6, 6);
        s.addBox(NONE, 5, 4, -1, 10, 2);
        titleIs("ahead of what is behind", s, 5, 0, 6, 6);
        s.move(0, 5, 4, 0);
        titleIs("ahead of what is at 0", s, 5, 1, 7, 6);
        s.move(0, 5, 4, 4);
        titleIs("at the greatest shift", s, 5, 5, 9, 4);
        s.move(0, 5, 4, 5);
        titleIs("two rows up", s, 3, 0, 6, 6);
        s.addBox(NONE, 3, 0, 5, 24, 4);
        titleIs("nowhere", s, NONE, NONE, NONE, NONE);
        Check.same("x", s.title(0), 6);
        Check.same("y", s.title(1), 5);
        Check.same("length", s.title(2), 6);
        s.move(1, 3, 1, 5);
        titleIs("in the row 0", s, 0, 0, 6, 6);
        s.setTitle(25, 0, 5);
        titleIs("at the right edge", s, 0, 0, 25, 25);
        s.setTitle(25, 0, 6);
        titleIs("beyond the right edge", s, NONE, NONE, NONE, NONE);
        s.clearTitle();
        Check.same("none again", s.title(2), NONE);
    }

    private static void titleInTheWindow() {
        EyeStage s = stage();
        s.addBox(NONE, -3, 0, 3, 5, 1);
        Check.same("window", s.whole(10), 3);
        s.setTitle(2, 9, 2);
        // At 0 and at 2 the left image masks it or the right one cuts it; in between neither does.
        titleIs("masked at 0", s, 9, 1, 3, 2);
        s.setTitle(0, 9, 2);
        titleIs("masked, then outside", s, NONE, NONE, NONE, NONE);
        s.move(0, 28, 0, 3);
        Check.same("window", s.whole(11), 3);
        s.setTitle(27, 9, 1);
        titleIs("masked at the right", s, 9, 2, 28, 26);
    }

    private static void shade() {
        EyeStage s = stage();
        s.addBox(NONE, 5, 3, 0, 4, 2);
        s.addBox(NONE, 6, 3, 0, 4, 1);
        s.addBox(NONE, 4, 4, 3, 3, 2);
        s.setShade(0, 1);
        s.setShade(1, 2);
        s.setShade(2, 3);
        int[] third = {4, 4, 4, 4, 4, 1, 2, 2, 2, 2, 4};
        int[] fourthLeft = {4, 4, 4, 4, 4, 1, 3, 3, 3, 4, 4};
        int[] fourthRight = {4, 4, 4, 3, 3, 3, 1, 1, 1, 4, 4};
        for (int c = 0; c < 11; c++) {
            Check.same("left (" + c + ", 3)", s.shade(true, c, 3), third[c]);
            Check.same("right (" + c + ", 3)", s.shade(false, c, 3), third[c]);
            Check.same("left (" + c + ", 4)", s.shade(true, c, 4), fourthLeft[c]);
            Check.same("right (" + c + ", 4)", s.shade(false, c, 4), fourthRight[c]);
        }
        s.setTitle(8, 3, 2);
        Check.same("title left", s.shade(true, 9, 3), 15);
        Check.same("title left, its end", s.shade(true, 11, 3), 4);
        Check.same("title right", s.shade(false, 8, 3), 15);
        Check.same("title right, its end", s.shade(false, 10, 3), 4);
        s.addBox(NONE, -1, 0, 2, 3, 12);
        Check.same("masked", s.shade(true, 1, 11), 0);
        Check.same("not masked", s.shade(true, 2, 11), 8);
        Check.same("beside the box", s.shade(true, 3, 11), 4);
        Check.same("the other image", s.shade(false, 0, 11), 8);
        for (boolean left : new boolean[] {true, false}) {
            Check.noIndex("column -1", s, () -> s.shade(left, -1, 0));
            Check.noIndex("column 30", s, () -> s.shade(left, 30, 0));
            Check.noIndex("row -1", s, () -> s.shade(left, 0, -1));
            Check.noIndex("row 12", s, () -> s.shade(left, 0, 12));
        }
    }

    private static void shown() {
        EyeStage s = stage();
        s.addGroup(NONE, 0, 0, 0);
        s.addBox(0, 5, 3, 1, 4, 2);
        s.addBox(NONE, -1, 3, 2, 8, 2);
        s.setTitle(12, 3, 2);
        Check.same("masked, but shown", s.shown(true, 0, 3), 2);
        Check.same("its shade", s.shade(true, 0, 3), 0);
        Check.same("nearer one", s.shown(true, 6, 3), 2);
        Check.same("behind it", s.shown(true, 8, 4), 1);
        Check.same("right image", s.shown(false, 6, 3), 1);
        Check.same("background", s.shown(false, 9, 3), NONE);
        Check.same("title", s.shown(false, 12, 3), NONE);
        s.setTitle(6, 3, 2);
        Check.same("under the title", s.shown(false, 6, 3), 1);
        Check.noIndex("column -1", s, () -> s.shown(true, -1, 0));
        Check.noIndex("column 30", s, () -> s.shown(false, 30, 0));
        Check.noIndex("row -1", s, () -> s.shown(true, 0, -1));
        Check.noIndex("row 12", s, () -> s.shown(false, 0, 12));
    }

    private static void ghost() {
        EyeStage s = stage();
        s.addBox(NONE, 5, 3, 2, 4, 2);
        s.setShade(0, 15);
        s.set(3, 60);
        int[] due = {0, 0, 0, 0, 6, 6, 0, 0, 6, 6, 0};
        for (int c = 0; c < due.length; c++) {
            Check.same("ghost(" + c + ", 4)", s.ghost(c, 4), due[c]);
        }
        s.set(3, 0);
        Check.same("no leak", s.ghost(4, 4), 0);
        s.set(3, 9);
        Check.same("rounded down", s.ghost(4, 4), 0);
        s.set(3, 10);
        Check.same("just 1", s.ghost(9, 4), 1);
        Check.noIndex("column -1", s, () -> s.ghost(-1, 0));
        Check.noIndex("column 30", s, () -> s.ghost(30, 0));
        Check.noIndex("row -1", s, () -> s.ghost(0, -1));
        Check.noIndex("row 12", s, () -> s.ghost(0, 12));
    }

    private static void ghosts() {
        EyeStage s = stage();
        Check.badValue("least 0", s, () -> s.ghosts(0));
        Check.badValue("least 16", s, () -> s.ghosts(16));
        Check.same("none", s.ghosts(1), 0);
        s.addBox(NONE, 5, 3, 2, 4, 2);
        s.addBox(NONE, 5, 10, 2, 4, 7);
        s.setShade(0, 15);
        s.setShade(1, 0);
        s.set(3, 100);
        Check.same("11 or more", s.ghosts(11), 8);
        Check.same("4 or more", s.ghosts(4), 16);
        Check.same("5 or more", s.ghosts(5), 8);
        Check.same("12 or more", s.ghosts(12), 0);
        s.addBox(NONE, 0, 0, 5, 1, 1);
        s.setShade(2, 4);
        s.set(2, 15);
        s.removeNode(0);
        // Of the box at the edge one cell is in the left image; the right one has nothing in the frame.
        Check.same("15", s.ghosts(15), 8);
        Check.same("11", s.ghosts(11), 9);
        Check.same("the row 0", s.meanGhost(0), 11.0 / 30.0);
        Check.same("all rows after the row 0", s.ghosts(11), 9);
        s.move(1, 0, 0, -5);
        s.move(0, 29, 0, 1);
        // The box 0 has the columns 30 to 33 on the left and 29 to 32 on the right, where b is 1.
        Check.same("b", s.whole(11), 1);
        Check.same("masked on one side", s.ghosts(15), 12);
        s.removeNode(1);
        s.move(0, -1, 0, 2);
        // It has the columns 0 to 3 on the left and -2 to 1 on the right, where a is 2, and the shade 0.
        Check.same("masked on the left", s.ghosts(1), 7 * 2 + 5 * 2);
    }

    private static void meanGhost() {
        EyeStage s = stage();
        s.addBox(NONE, 5, 3, 3, 2, 2);
        s.setShade(0, 12);
        s.set(3, 50);
        Check.same("row 2", s.meanGhost(2), 0.0);
        Check.same("row 4 after row 2", s.meanGhost(4), 16.0 / 30.0);
        Check.same("row 2 after row 4", s.meanGhost(2), 0.0);
        Check.same("row 3", s.meanGhost(3), 16.0 / 30.0);
        Check.same("row 4", s.meanGhost(4), 16.0 / 30.0);
        Check.same("row 5", s.meanGhost(5), 0.0);
        s.setTitle(29, 11, 1);
        Check.same("row 11", s.meanGhost(11), 0.0);
        Check.noIndex("row -1", s, () -> (long) s.meanGhost(-1));
        Check.noIndex("row 12", s, () -> (long) s.meanGhost(12));
    }

    private static void percentageFor() {
        EyeStage s = stage();
        Check.same("without boxes", s.percentageFor(0, 0), 100);
        s.addBox(NONE, 5, 3, 40, 2, 2);
        s.addBox(NONE, 5, 3, -15, 2, 2);
        s.addGroup(NONE, 0, 0, 200);
        Check.same("both", s.percentageFor(-20, 20), 52);
        Check.same("behind", s.percentageFor(-1, 20), 6);
        Check.same("ahead", s.percentageFor(-20, 0), 2);
        Check.same("no room", s.percentageFor(0, 20), 0);
        Check.same("present", s.whole(9), 14);
        Check.badValue("least -21", s, () -> s.percentageFor(-21, 0));
        Check.badValue("least 1", s, () -> s.percentageFor(1, 0));
        Check.badValue("greatest -1", s, () -> s.percentageFor(0, -1));
        Check.badValue("greatest 21", s, () -> s.percentageFor(0, 21));
    }

    private static void fittingGain() {
        EyeStage s = stage();
        Check.same("without boxes", s.fittingGain(), 100);
        s.addBox(NONE, 5, 3, 5, 2, 2);
        Check.same("just fits", s.fittingGain(), 100);
        s.move(0, 5, 3, 10);
        Check.same("ahead", s.fittingGain(), 59);
        s.move(0, 5, 3, -10);
        Check.same("behind", s.fittingGain(), 50);
        s.addScene(0, 5, 1);
        s.tick(5);
        Check.same("nothing but 0", s.fittingGain(), 0);
        Check.same("gain stays", s.whole(12), 100);
    }

    private static void fullAfter() {
        EyeStage s = stage();
        Check.badValue("most -1", s, () -> s.fullAfter(-1));
        Check.badValue("most 201", s, () -> s.fullAfter(201));
        Check.same("now", s.fullAfter(0), 0);
        s.addBox(NONE, 5, 3, 10, 2, 2);
        Check.same("without scenes", s.fullAfter(200), NONE);
        s.addScene(-5, 5, 3);
        s.addScene(-5, 20, 50);
        // The times 1 and 2 are in the first scene; from 3 on the budget grows, and is 10 at 7.
        Check.same("in time", s.fullAfter(7), 7);
        Check.same("too late", s.fullAfter(6), NONE);
        s.set(1, 5);
        Check.same("faster", s.fullAfter(200), 3);
        Check.same("time stays", s.whole(5), 0);
        Check.same("budget stays", s.whole(8), 5);
        s.tick(2);
        Check.same("from 2 on", s.fullAfter(200), 1);
    }

    private static void ghostsWithout() {
        EyeStage s = stage();
        Check.noIndex("no node", s, () -> s.ghostsWithout(0, 1));
        Check.noIndex("no node and least 0", s, () -> s.ghostsWithout(0, 0));
        s.addGroup(NONE, 0, 0, 0);
        s.addBox(0, 5, 3, 2, 4, 2);
        s.addBox(NONE, 15, 3, 10, 1, 1);
        s.addBox(0, 0, 11, 0, 1, 1);
        s.set(3, 100);
        // With 59 percent, which keeps 10 at 5, the shifts are 1 and 5.
        Check.same("with all", s.ghosts(1), 2 * 2 + 2);
        Check.same("without the one that goes beyond", s.ghostsWithout(2, 1), 4 * 2);
        Check.same("without the group", s.ghostsWithout(0, 4), 2);
        Check.same("without what is at 0", s.ghostsWithout(3, 1), 6);
        Check.same("least 5", s.ghostsWithout(3, 5), 0);
        Check.same("nothing is changed", s.whole(2), 4);
        Check.same("all are there still", s.ghosts(1), 6);
        Check.badValue("least 0", s, () -> s.ghostsWithout(0, 0));
        Check.badValue("least 16", s, () -> s.ghostsWithout(0, 16));
        Check.noIndex("node 4", s, () -> s.ghostsWithout(4, 1));
        Check.noIndex("node -1", s, () -> s.ghostsWithout(-1, 1));
        s.clearTitle();
        Check.same("a question saves no state", s.undo(), 3);
    }
}
