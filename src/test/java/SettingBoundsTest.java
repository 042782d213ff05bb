/** Promises 8 to 12, 15 and 17 at their bounds: scenes, settings, time, budget, percentage and window. */
public final class SettingBoundsTest {
    private static final int NONE = EyeStage.NONE;

    private SettingBoundsTest() {
    }

    public static void main(String[] args) {
        Check.promises(SettingBoundsTest.class);
    }

    private static EyeStage withScenes(int scenes) {
        EyeStage s = new EyeStage();
        for (int n = 0; n < scenes; n++) {
            s.addScene(-n, 2 * n, n + 1);
        }
        return s;
    }

    /** A frame in which the shift of a box is its depth, as long as that is within -20 and 20. */
    private static EyeStage wide(int width, int height) {
        EyeStage s = new EyeStage();
        s.begin(width, height);
        s.set(0, 100);
        s.set(1, 5);
        s.addScene(-20, 20, 50);
        s.tick(3);
        return s;
    }

    private static EyeStage wideWithBox(int x, int y, int shift, int width, int height) {
        EyeStage s = wide(40, 20);
        s.addBox(NONE, x, y, shift, width, height);
        return s;
    }

    private static void budgetIs(String what, EyeStage s, int least, int greatest) {
        Check.same(what + ": least", s.whole(7), least);
        Check.same(what + ": greatest", s.whole(8), greatest);
    }

    private static void windowIs(String what, EyeStage s, int left, int right) {
        Check.same(what + ": left", s.whole(10), left);
        Check.same(what + ": right", s.whole(11), right);
    }

    // ---- promise 8: addScene

    static void promise08LeastFromMinus20To0() {
        Check.valueBounds(-20, 0, EyeStage::new, (s, least) -> s.addScene(least, 0, 1));
    }

    static void promise08GreatestFrom0To20() {
        Check.valueBounds(0, 20, EyeStage::new, (s, greatest) -> s.addScene(0, greatest, 1));
    }

    static void promise08TicksFrom1To50() {
        Check.valueBounds(1, 50, EyeStage::new, (s, ticks) -> s.addScene(-20, 20, ticks));
    }

    static void promise08AtMost8Scenes() {
        EyeStage s = withScenes(7);
        Check.same("the 8th", s.addScene(0, 0, 1), 7);
        Check.badState("the 9th", s, () -> s.addScene(0, 0, 1));
        s.undo();
        Check.same("the 8th again", s.addScene(0, 0, 1), 7);
    }

    static void promise08TheFirstExceptionListedIsThrown() {
        EyeStage s = withScenes(8);
        Check.badValue("least, full", s, () -> s.addScene(-21, 0, 1));
        Check.badValue("greatest, full", s, () -> s.addScene(0, 21, 1));
        Check.badValue("ticks, full", s, () -> s.addScene(0, 0, 51));
    }

    static void promise08NumberedFrom0() {
        EyeStage s = new EyeStage();
        for (int n = 0; n < 8; n++) {
            Check.same("scene", s.addScene(0, 0, 50), n);
        }
    }

    static void promise08AloneItMovesNoBudget() {
        EyeStage s = new EyeStage();
        s.addScene(-20, 20, 1);
        budgetIs("before a tick", s, -5, 5);
        s.tick(1);
        budgetIs("after a tick", s, -6, 6);
    }

    static void promise08Undoable() {
        EyeStage s = new EyeStage();
        long before = s.digest();
        s.addScene(-20, 20, 1);
        Check.same("states left", s.undo(), 0);
        Check.same("all is back", s.digest(), before);
    }

    // ---- promise 9: set

    static void promise09WhatFrom0To3() {
        Check.valueBounds(0, 3, EyeStage::new, (s, what) -> s.set(what, 1));
    }

    static void promise09GainFrom0To100() {
        Check.valueBounds(0, 100, EyeStage::new, (s, value) -> s.set(0, value));
    }

    static void promise09RateFrom1To5() {
        Check.valueBounds(1, 5, EyeStage::new, (s, value) -> s.set(1, value));
    }

    static void promise09BackgroundFrom0To15() {
        Check.valueBounds(0, 15, EyeStage::new, (s, value) -> s.set(2, value));
    }

    static void promise09LeakFrom0To100() {
        Check.valueBounds(0, 100, EyeStage::new, (s, value) -> s.set(3, value));
    }

    static void promise09ReturnsThePreviousValue() {
        int[] first = {20, 1, 4, 10};
        int[] least = {0, 1, 0, 0};
        int[] greatest = {100, 5, 15, 100};
        EyeStage s = new EyeStage();
        for (int what = 0; what < 4; what++) {
            Check.same("at first, " + what, s.set(what, greatest[what]), first[what]);
            Check.same("after the greatest, " + what, s.set(what, least[what]), greatest[what]);
            Check.same("after the least, " + what, s.set(what, greatest[what]), least[what]);
        }
    }

    static void promise09LeastAndGreatestRateMoveTheBudget() {
        EyeStage s = new EyeStage();
        s.addScene(-20, 20, 1);
        s.set(1, 5);
        s.tick(1);
        budgetIs("rate 5", s, -10, 10);
        s.set(1, 1);
        s.tick(1);
        budgetIs("rate 1", s, -11, 11);
    }

    static void promise09LeastAndGreatestBackgroundAreSeen() {
        EyeStage s = new EyeStage();
        s.set(2, 0);
        Check.same("0", s.shade(true, 0, 0), 0);
        s.set(2, 15);
        Check.same("15", s.shade(false, 79, 39), 15);
    }

    static void promise09UndoableAlsoIfItChangesNothing() {
        EyeStage s = new EyeStage();
        s.set(0, 20);
        Check.same("states left", s.undo(), 0);
        for (int what = 0; what < 4; what++) {
            s.set(what, 3);
        }
        for (int left = 3; left >= 0; left--) {
            Check.same("states left", s.undo(), left);
        }
        int[] first = {20, 1, 4, 10};
        for (int what = 0; what < 4; what++) {
            Check.same("setting " + what, s.whole(12 + what), first[what]);
        }
    }

    // ---- promise 10: setTitle

    private static EyeStage frame(int width, int height) {
        EyeStage s = new EyeStage();
        s.begin(width, height);
        return s;
    }

    static void promise10XFrom0ToWMinus1() {
        Check.valueBounds(0, 19, () -> frame(20, 10), (s, x) -> s.setTitle(x, 0, 1));
        Check.valueBounds(0, 79, EyeStage::new, (s, x) -> s.setTitle(x, 0, 1));
        Check.valueBounds(0, 199, () -> frame(200, 120), (s, x) -> s.setTitle(x, 0, 1));
    }

    static void promise10YFrom0ToHMinus1() {
        Check.valueBounds(0, 9, () -> frame(20, 10), (s, y) -> s.setTitle(0, y, 1));
        Check.valueBounds(0, 39, EyeStage::new, (s, y) -> s.setTitle(0, y, 1));
        Check.valueBounds(0, 119, () -> frame(200, 120), (s, y) -> s.setTitle(0, y, 1));
    }

    static void promise10LengthFrom1To40() {
        Check.valueBounds(1, 40, EyeStage::new, (s, length) -> s.setTitle(0, 0, length));
        Check.valueBounds(1, 40, () -> frame(20, 10), (s, length) -> s.setTitle(19, 9, length));
    }

    static void promise10ReturnsThePreviousLength() {
        EyeStage s = new EyeStage();
        Check.same("of none", s.setTitle(0, 0, 40), 0);
        Check.same("of 40", s.setTitle(0, 0, 1), 40);
        Check.same("of 1", s.setTitle(0, 0, 2), 1);
        s.clearTitle();
        Check.same("of none again", s.setTitle(0, 0, 3), 0);
        s.begin(20, 10);
        Check.same("of none after begin", s.setTitle(0, 0, 3), 0);
    }

    static void promise10InPlaceOfOneThatThereIs() {
        EyeStage s = new EyeStage();
        s.setTitle(79, 39, 1);
        s.setTitle(5, 6, 7);
        Check.same("x", s.title(0), 5);
        Check.same("y", s.title(1), 6);
        Check.same("length", s.title(2), 7);
        Check.same("the old cell", s.shade(true, 79, 39), 4);
        Check.same("the new cell", s.shade(true, 5, 6), 15);
    }

    static void promise10UndoableAlsoIfItChangesNothing() {
        EyeStage s = new EyeStage();
        s.setTitle(5, 6, 7);
        s.setTitle(5, 6, 7);
        Check.same("states left", s.undo(), 1);
        Check.same("length", s.title(2), 7);
        Check.same("states left", s.undo(), 0);
        Check.same("none", s.title(2), NONE);
    }

    // ---- promise 11: clearTitle

    static void promise11ReturnsThePreviousLength() {
        EyeStage s = new EyeStage();
        Check.same("of none", s.clearTitle(), 0);
        s.setTitle(0, 0, 40);
        Check.same("of 40", s.clearTitle(), 40);
        Check.same("of none again", s.clearTitle(), 0);
    }

    static void promise11OfATitleThatIsNotShown() {
        EyeStage s = frame(20, 10);
        s.setTitle(19, 0, 2);
        Check.same("its row", s.title(3), NONE);
        Check.same("its length", s.clearTitle(), 2);
        Check.same("none", s.title(0), NONE);
    }

    static void promise11UndoableAlsoIfItChangesNothing() {
        EyeStage s = new EyeStage();
        s.clearTitle();
        Check.same("states left", s.undo(), 0);
        s.setTitle(1, 2, 3);
        s.clearTitle();
        Check.same("states left", s.undo(), 1);
        Check.same("back", s.title(2), 3);
    }

    // ---- promise 12: tick

    static void promise12TicksFrom1To200() {
        Check.valueBounds(1, 200, () -> withScenes(3), EyeStage::tick);
    }

    static void promise12ReturnsTheTimeThen() {
        EyeStage s = new EyeStage();
        Check.same("1", s.tick(1), 1);
        Check.same("200 more", s.tick(200), 201);
        Check.same("the value", s.whole(5), 201);
        s.undo();
        Check.same("after undo", s.tick(2), 3);
    }

    static void promise12WithoutScenesTheBudgetStays() {
        EyeStage s = new EyeStage();
        s.tick(200);
        budgetIs("without scenes", s, -5, 5);
        s.addScene(-20, 20, 1);
        s.tick(1);
        budgetIs("with one", s, -6, 6);
    }

    static void promise12TheBudgetMovesByTheRateButNotBeyond() {
        EyeStage s = new EyeStage();
        s.set(1, 3);
        s.addScene(-9, 10, 50);
        s.tick(1);
        budgetIs("one step", s, -8, 8);
        s.tick(1);
        budgetIs("not beyond", s, -9, 10);
        s.tick(200);
        budgetIs("at its end", s, -9, 10);
    }

    static void promise12TheBudgetMovesInwardsButNotBeyond() {
        EyeStage s = new EyeStage();
        s.set(1, 4);
        s.addScene(0, 0, 50);
        s.tick(1);
        budgetIs("one step", s, -1, 1);
        s.tick(1);
        budgetIs("not beyond", s, 0, 0);
        s.tick(1);
        budgetIs("at its end", s, 0, 0);
    }

    static void promise12TheBudgetReachesItsGreatestWidth() {
        EyeStage s = new EyeStage();
        s.addScene(-20, 20, 1);
        s.tick(14);
        budgetIs("after 14", s, -19, 19);
        s.tick(1);
        budgetIs("after 15", s, -20, 20);
        s.tick(1);
        budgetIs("after 16", s, -20, 20);
    }

    static void promise12TheSceneIsThatOfTheNewTime() {
        EyeStage s = new EyeStage();
        s.addScene(-20, 20, 2);
        s.addScene(0, 0, 1);
        s.tick(1);
        budgetIs("time 1, the first scene", s, -6, 6);
        s.tick(1);
        budgetIs("time 2, the second one", s, -5, 5);
        EyeStage short1 = new EyeStage();
        short1.addScene(-20, 20, 1);
        short1.addScene(0, 0, 1);
        short1.tick(1);
        budgetIs("time 1, the second one", short1, -4, 4);
    }

    static void promise12ManyTicksAreAsManySingleOnes() {
        EyeStage many = withScenes(8);
        EyeStage single = withScenes(8);
        many.tick(40);
        for (int n = 0; n < 40; n++) {
            single.tick(1);
        }
        Check.same("time", many.whole(5), single.whole(5));
        budgetIs("both", many, single.whole(7), single.whole(8));
        budgetIs("at the last scene's", many, -7, 14);
    }

    static void promise12UndoableInOneStep() {
        EyeStage s = withScenes(3);
        long before = s.digest();
        s.tick(200);
        Check.same("time", s.whole(5), 200);
        Check.same("states left", s.undo(), 3);
        Check.same("all is back", s.digest(), before);
    }

    // ---- promise 15: scene

    static void promise15SceneIsThere() {
        Check.indexBounds(0, 0, () -> withScenes(1), (s, scene) -> s.scene(scene, 0));
        Check.indexBounds(0, 7, () -> withScenes(8), (s, scene) -> s.scene(scene, 3));
        EyeStage none = new EyeStage();
        Check.noIndex("without scenes", none, () -> none.scene(0, 0));
        Check.noIndex("NONE", none, () -> none.scene(NONE, 0));
    }

    static void promise15WhatFrom0To3() {
        Check.valueBounds(0, 3, () -> withScenes(2), (s, what) -> s.scene(1, what));
    }

    static void promise15TheFirstExceptionListedIsThrown() {
        EyeStage s = withScenes(2);
        Check.noIndex("no scene, no what", s, () -> s.scene(2, 4));
        Check.noIndex("no scene, no what", s, () -> s.scene(-1, -1));
    }

    static void promise15ValuesAtTheirEnds() {
        EyeStage s = new EyeStage();
        s.addScene(-20, 0, 1);
        s.addScene(0, 20, 50);
        s.addScene(-1, 1, 1);
        int[][] due = {{-20, 0, 1, 0}, {0, 20, 50, 1}, {-1, 1, 1, 51}};
        for (int n = 0; n < 3; n++) {
            for (int what = 0; what < 4; what++) {
                Check.same("scene(" + n + ", " + what + ")", s.scene(n, what), due[n][what]);
            }
        }
    }

    static void promise15TheyFollowOneAnotherFromTime0On() {
        EyeStage s = new EyeStage();
        for (int n = 0; n < 8; n++) {
            s.addScene(0, 0, 50);
        }
        for (int n = 0; n < 8; n++) {
            Check.same("begin of " + n, s.scene(n, 3), 50 * n);
        }
    }

    // ---- promise 17: whole

    static void promise17WhatFrom0To15() {
        Check.valueBounds(0, 15, EyeStage::new, EyeStage::whole);
        Check.valueBounds(0, 15, () -> wideWithBox(-1, 0, 4, 5, 5), EyeStage::whole);
    }

    static void promise17NoPresentSceneWithoutScenes() {
        EyeStage s = new EyeStage();
        Check.same("none", s.whole(6), NONE);
        s.tick(100);
        Check.same("none at 100", s.whole(6), NONE);
        s.addScene(0, 0, 1);
        Check.same("the only one", s.whole(6), 0);
    }

    static void promise17ThePresentSceneEndsWithItsTicks() {
        EyeStage s = new EyeStage();
        s.addScene(0, 0, 1);
        s.addScene(0, 0, 50);
        s.addScene(0, 0, 2);
        Check.same("at 0", s.whole(6), 0);
        s.tick(1);
        Check.same("at 1", s.whole(6), 1);
        s.tick(49);
        Check.same("at 50", s.whole(6), 1);
        s.tick(1);
        Check.same("at 51", s.whole(6), 2);
    }

    static void promise17TheLastSceneGoesOnForEver() {
        EyeStage s = new EyeStage();
        s.addScene(0, 0, 1);
        s.addScene(0, 0, 1);
        s.tick(1);
        Check.same("at 1", s.whole(6), 1);
        s.tick(1);
        Check.same("at 2", s.whole(6), 1);
        s.tick(200);
        Check.same("at 202", s.whole(6), 1);
    }

    static void promise17ScenesThatAreGoneDoNotCount() {
        EyeStage s = new EyeStage();
        for (int n = 0; n < 8; n++) {
            s.addScene(0, 0, 50);
        }
        s.undo();
        s.undo();
        s.tick(200);
        s.tick(200);
        Check.same("the 6th goes on for ever", s.whole(6), 5);
        s.begin(80, 40);
        s.addScene(-20, 20, 1);
        s.tick(1);
        Check.same("the only one since begin", s.whole(6), 0);
        s.tick(60);
        Check.same("the only one at 61", s.whole(6), 0);
        budgetIs("by it", s, -20, 20);
    }

    static void promise17NodesAndBoxesAtTheirEnds() {
        EyeStage s = new EyeStage();
        for (int n = 0; n < 20; n++) {
            s.addBox(NONE, 0, 0, 0, 1, 1);
        }
        Check.same("nodes", s.whole(2), 20);
        Check.same("boxes", s.whole(3), 20);
        s.removeNode(0);
        s.addGroup(NONE, 0, 0, 0);
        Check.same("nodes with a group", s.whole(2), 20);
        Check.same("boxes beside a group", s.whole(3), 19);
        Check.same("scenes", withScenes(8).whole(4), 8);
    }

    static void promise17PercentageIs100WithoutBoxes() {
        EyeStage s = new EyeStage();
        s.addGroup(NONE, 0, 0, 200);
        s.addGroup(0, 0, 0, 200);
        s.set(0, 100);
        Check.same("groups alone", s.whole(9), 100);
        s.addBox(1, 0, 0, -200, 1, 1);
        Check.differs("with a box", s.whole(9), 100);
    }

    static void promise17PercentageIs100JustAtTheBudget() {
        EyeStage s = wide(40, 20);
        s.addBox(NONE, 10, 10, 20, 1, 1);
        Check.same("20", s.whole(9), 100);
        s.move(0, 10, 10, 21);
        // 21 comes to 20 as long as 21 * g is less than 2100.
        Check.same("21", s.whole(9), 99);
        s.move(0, 10, 10, -20);
        Check.same("-20", s.whole(9), 100);
        s.move(0, 10, 10, -21);
        // -21 * g has to be -2000 at least.
        Check.same("-21", s.whole(9), 95);
    }

    static void promise17PercentageIs0IfNothingElseIsWithin() {
        EyeStage s = new EyeStage();
        s.set(0, 100);
        s.set(1, 5);
        s.addScene(0, 0, 1);
        s.tick(1);
        s.addBox(NONE, 10, 10, 99, 1, 1);
        Check.same("99", s.whole(9), 1);
        s.move(0, 10, 10, 100);
        Check.same("100", s.whole(9), 0);
        s.move(0, 10, 10, -1);
        Check.same("-1", s.whole(9), 0);
        Check.same("no shift is left", s.node(0, 13), 0);
        s.move(0, 10, 10, 0);
        Check.same("0", s.whole(9), 100);
    }

    static void promise17PercentageIsForAllBoxes() {
        EyeStage s = new EyeStage();
        s.set(0, 100);
        for (int n = 0; n < 20; n++) {
            s.addBox(NONE, 10, 10, 5, 1, 1);
        }
        Check.same("all within", s.whole(9), 100);
        s.move(19, 10, 10, 6);
        Check.same("the last one beyond", s.whole(9), 99);
        s.move(0, 10, 10, -10);
        Check.same("the first one too", s.whole(9), 50);
    }

    static void promise17NoWindowWithoutCutBoxes() {
        EyeStage s = wide(40, 20);
        windowIs("without boxes", s, 0, 0);
        s.addBox(NONE, 10, 5, 20, 10, 10);
        windowIs("in the middle", s, 0, 0);
        s.addGroup(NONE, -1, 0, 20);
        windowIs("a group", s, 0, 0);
    }

    static void promise17CutAtTheLeft() {
        // With the shift 2 the box has the columns x + 1 to x + 3 on the left, x - 1 to x + 1 on the right.
        windowIs("from the column 0 on", wideWithBox(1, 5, 2, 3, 2), 0, 0);
        windowIs("one column outside on the right", wideWithBox(0, 5, 2, 3, 2), 2, 0);
        windowIs("two columns outside on the right", wideWithBox(-1, 5, 2, 3, 2), 2, 0);
        windowIs("outside on the right, one column on the left", wideWithBox(-2, 5, 2, 3, 2), 2, 0);
        windowIs("up to the column 0 on the left", wideWithBox(-3, 5, 2, 3, 2), 2, 0);
        windowIs("up to the column -1", wideWithBox(-4, 5, 2, 3, 2), 0, 0);
    }

    static void promise17CutAtTheRight() {
        windowIs("up to the column 39", wideWithBox(36, 5, 2, 3, 2), 0, 0);
        windowIs("one column outside on the left", wideWithBox(37, 5, 2, 3, 2), 0, 2);
        windowIs("two columns outside on the left", wideWithBox(38, 5, 2, 3, 2), 0, 2);
        windowIs("outside on the left, one column on the right", wideWithBox(39, 5, 2, 3, 2), 0, 2);
        windowIs("from the column 39 on the right", wideWithBox(40, 5, 2, 3, 2), 0, 2);
        windowIs("from the column 40 on", wideWithBox(41, 5, 2, 3, 2), 0, 0);
    }

    static void promise17OneColumnIsNeverCut() {
        for (int x = -4; x <= 4; x++) {
            windowIs("left, x = " + x, wideWithBox(x, 5, 2, 1, 2), 0, 0);
            windowIs("right, x = " + (39 + x), wideWithBox(39 + x, 5, 2, 1, 2), 0, 0);
        }
    }

    static void promise17SomeRowsAreInTheFrame() {
        windowIs("up to the row -1", wideWithBox(-1, -4, 2, 5, 4), 0, 0);
        windowIs("up to the row 0", wideWithBox(-1, -3, 2, 5, 4), 2, 0);
        windowIs("from the row 19 on", wideWithBox(-1, 19, 2, 5, 4), 2, 0);
        windowIs("from the row 20 on", wideWithBox(-1, 20, 2, 5, 4), 0, 0);
        windowIs("its only row is -1", wideWithBox(38, -1, 2, 5, 1), 0, 0);
        windowIs("its only row is 0", wideWithBox(38, 0, 2, 5, 1), 0, 2);
        windowIs("its only row is 19", wideWithBox(38, 19, 2, 5, 1), 0, 2);
        windowIs("its only row is 20", wideWithBox(38, 20, 2, 5, 1), 0, 0);
    }

    static void promise17TheShiftIsGreaterThanTheWindows() {
        windowIs("shift -1", wideWithBox(-1, 5, -1, 5, 2), 0, 0);
        windowIs("shift 0", wideWithBox(-1, 5, 0, 5, 2), 0, 0);
        windowIs("shift 1", wideWithBox(-2, 5, 1, 5, 2), 1, 0);
        windowIs("shift 0 at the right", wideWithBox(38, 5, 0, 5, 2), 0, 0);
        windowIs("shift 1 at the right", wideWithBox(38, 5, 1, 5, 2), 0, 1);
        windowIs("shift 20", wideWithBox(8, 5, 20, 5, 2), 20, 0);
        windowIs("shift 20 at the right", wideWithBox(28, 5, 20, 5, 2), 0, 20);
    }

    static void promise17TheGreatestOfSuchBoxes() {
        EyeStage s = wideWithBox(-1, 5, 2, 5, 2);
        s.addBox(NONE, -1, 5, 7, 5, 2);
        s.addBox(NONE, -1, 5, 4, 5, 2);
        s.addBox(NONE, 20, 5, 9, 2, 2);
        s.addBox(NONE, 38, 5, 3, 5, 2);
        s.addBox(NONE, 38, 5, 6, 5, 2);
        windowIs("7 and 6", s, 7, 6);
    }

    static void promise17AMaskCutsAtTheLeft() {
        // The first box makes a 4. The second one, with the shift 6, has the columns x + 3 .. on the left
        // and x - 3 .. on the right, where it is outside.
        int[][] due = {{0, 3, 6}, {0, 2, 6}, {0, 1, 4}, {1, 2, 4}, {-1, 3, 6}, {-1, 2, 4}};
        for (int[] row : due) {
            EyeStage s = wideWithBox(-1, 5, 4, 10, 2);
            s.addBox(NONE, row[0], 8, 6, row[1], 2);
            windowIs("x = " + row[0] + ", width " + row[1], s, row[2], 0);
            s.removeNode(0);
            windowIs("without a mask, x = " + row[0] + ", width " + row[1], s, 0, 0);
        }
    }

    static void promise17AMaskCutsAtTheRight() {
        // The first box makes b 4, so that 36 is the first masked column of the right image, where the
        // second one, with the shift 6, has the columns x - 3 ..; on the left it is outside.
        int[][] due = {{37, 2, 4}, {37, 3, 6}, {38, 1, 4}, {38, 2, 6}, {39, 1, 4}, {39, 4, 4}};
        for (int[] row : due) {
            EyeStage s = wideWithBox(31, 5, 4, 8, 2);
            s.addBox(NONE, row[0], 8, 6, row[1], 2);
            windowIs("x = " + row[0] + ", width " + row[1], s, 0, row[2]);
            s.removeNode(0);
            windowIs("without a mask, x = " + row[0] + ", width " + row[1], s, 0, 0);
        }
    }

    static void promise17AMaskCutsAgainAndAgain() {
        EyeStage left = wideWithBox(-1, 5, 4, 10, 2);
        // Columns 3 to 5, 5 to 7 and 8 to 9 in the left image; outside in the right one.
        left.addBox(NONE, 0, 8, 6, 3, 2);
        left.addBox(NONE, 0, 8, 9, 3, 2);
        left.addBox(NONE, 3, 8, 10, 2, 2);
        windowIs("4, 6, 9 and 10", left, 10, 0);
        left.removeNode(1);
        windowIs("without 6 no more than 4", left, 4, 0);
        EyeStage right = wideWithBox(31, 5, 4, 8, 2);
        // Columns 34 to 36, 32 to 34 and 30 to 31 in the right image; outside in the left one.
        right.addBox(NONE, 37, 8, 6, 3, 2);
        right.addBox(NONE, 36, 8, 9, 3, 2);
        right.addBox(NONE, 35, 8, 10, 2, 2);
        windowIs("4, 6, 9 and 10", right, 0, 10);
        right.removeNode(1);
        windowIs("without 6 no more than 4", right, 0, 4);
    }

    static void promise17ABoxThatIsMaskedWhollyIsNotCut() {
        EyeStage s = wideWithBox(-1, 5, 4, 10, 2);
        // On the left it has the columns 2 and 3, which a = 4 masks; on the right -4 and -3.
        s.addBox(NONE, -1, 8, 6, 2, 2);
        windowIs("masked", s, 4, 0);
    }

    static void promise17AMaskIsInOneImageAlone() {
        EyeStage left = wideWithBox(-1, 5, 4, 10, 2);
        // In the right image it has the columns 0 to 9, and on the left 6 to 15.
        left.addBox(NONE, 3, 8, 6, 10, 2);
        windowIs("the right image's left edge is the frame's", left, 4, 0);
        EyeStage right = wideWithBox(31, 5, 4, 8, 2);
        // In the left image it has the columns 30 to 39, and on the right 24 to 33.
        right.addBox(NONE, 27, 8, 6, 10, 2);
        windowIs("the left image's right edge is the frame's", right, 0, 4);
    }

    static void promise17BothSidesOfOneBox() {
        windowIs("wider than the frame", wideWithBox(-1, 5, 3, 42, 2), 3, 3);
        windowIs("as wide as the frame", wideWithBox(0, 5, 3, 40, 2), 3, 3);
        windowIs("as wide as the frame, without a shift", wideWithBox(0, 5, 0, 40, 2), 0, 0);
    }

    static void promise17AllColumnsMaskedAtTheLeft() {
        EyeStage all = wide(20, 10);
        all.addBox(NONE, -11, 0, 20, 3, 2);
        // The columns -1 to 1 on the left. With a = W = 20 it has no column that is not masked.
        windowIs("W = 20", all, 20, 0);
        Check.same("last column", all.shade(true, 19, 9), 0);
        Check.same("the other image", all.shade(false, 0, 9), 4);
        EyeStage most = wide(21, 10);
        most.addBox(NONE, -11, 0, 20, 3, 2);
        windowIs("W = 21", most, 20, 0);
        Check.same("column 19", most.shade(true, 19, 9), 0);
        Check.same("column 20", most.shade(true, 20, 9), 4);
    }

    static void promise17AllColumnsMaskedAtTheRight() {
        EyeStage all = wide(20, 10);
        all.addBox(NONE, 29, 0, 20, 3, 2);
        windowIs("W = 20", all, 0, 20);
        Check.same("first column", all.shade(false, 0, 9), 0);
        Check.same("the other image", all.shade(true, 19, 9), 4);
        EyeStage most = wide(21, 10);
        most.addBox(NONE, 30, 0, 20, 3, 2);
        windowIs("W = 21", most, 0, 20);
        Check.same("column 1", most.shade(false, 1, 9), 0);
        Check.same("column 0", most.shade(false, 0, 9), 4);
    }

    static void promise17AllColumnsMaskedOnBothSides() {
        EyeStage s = wide(20, 10);
        s.addBox(NONE, -11, 0, 20, 3, 2);
        s.addBox(NONE, 29, 0, 20, 3, 2);
        windowIs("both", s, 20, 20);
        for (int column = 0; column < 20; column++) {
            Check.same("left " + column, s.shade(true, column, 0), 0);
            Check.same("right " + column, s.shade(false, column, 0), 0);
        }
    }
}
