/** Promises 1 to 7, 13 and 14 at their bounds: one test for each sentence that names a boundary case. */
public final class TreeBoundsTest {
    private static final int NONE = EyeStage.NONE;

    private TreeBoundsTest() {
    }

    public static void main(String[] args) {
        Check.promises(TreeBoundsTest.class);
    }

    /** A group 0 with the box 1 in it, and the box 2 outside; something is set of each kind. */
    private static EyeStage furnished() {
        EyeStage s = new EyeStage();
        s.addGroup(NONE, 3, 4, 5);
        s.addBox(0, 1, 2, 20, 6, 5);
        s.addBox(NONE, 30, 10, -40, 12, 8);
        s.addScene(-9, 9, 4);
        s.setTitle(10, 20, 5);
        s.set(0, 60);
        s.tick(2);
        return s;
    }

    /** Groups in one another: the group n has n groups around it. */
    private static EyeStage nested(int groups) {
        EyeStage s = new EyeStage();
        for (int n = 0; n < groups; n++) {
            s.addGroup(n == 0 ? NONE : n - 1, 0, 0, 0);
        }
        return s;
    }

    private static EyeStage withNodes(int nodes) {
        EyeStage s = new EyeStage();
        for (int n = 0; n < nodes; n++) {
            if (n % 2 == 0) {
                s.addGroup(NONE, 0, 0, 0);
            } else {
                s.addBox(n - 1, 0, 0, 0, 1, 1);
            }
        }
        return s;
    }

    private static EyeStage withBoxes(int boxes) {
        EyeStage s = new EyeStage();
        for (int n = 0; n < boxes; n++) {
            s.addBox(NONE, 0, 0, 0, 1, 1);
        }
        return s;
    }

    private static EyeStage withBox(int dz) {
        EyeStage s = new EyeStage();
        s.addBox(NONE, 50, 5, dz, 2, 2);
        return s;
    }

    private static void nodeIs(String what, EyeStage s, int node, int... due) {
        for (int value = 0; value < due.length; value++) {
            Check.same(what + ": node(" + node + ", " + value + ")", s.node(node, value), due[value]);
        }
    }

    // ---- promise 1: a new object

    static void promise01FrameOf80Times40() {
        EyeStage s = new EyeStage();
        Check.same("W", s.whole(0), 80);
        Check.same("H", s.whole(1), 40);
        Check.same("last cell", s.shade(true, 79, 39), 4);
        Check.noIndex("column 80", s, () -> s.shade(true, 80, 39));
        Check.noIndex("row 40", s, () -> s.shade(true, 79, 40));
    }

    static void promise01NoNodesScenesAndTitle() {
        EyeStage s = new EyeStage();
        Check.same("nodes", s.whole(2), 0);
        Check.same("boxes", s.whole(3), 0);
        Check.same("scenes", s.whole(4), 0);
        Check.same("present scene", s.whole(6), NONE);
        Check.same("painted", s.painted(0), NONE);
        Check.noIndex("node 0", s, () -> s.node(0, 0));
        Check.noIndex("scene 0", s, () -> s.scene(0, 0));
        for (int what = 0; what <= 6; what++) {
            Check.same("title(" + what + ")", s.title(what), NONE);
        }
    }

    static void promise01TimeAndBudgetAsAtFirst() {
        EyeStage s = new EyeStage();
        Check.same("time", s.whole(5), 0);
        Check.same("least", s.whole(7), -5);
        Check.same("greatest", s.whole(8), 5);
        Check.same("percentage", s.whole(9), 100);
        Check.same("left of the window", s.whole(10), 0);
        Check.same("right of the window", s.whole(11), 0);
    }

    static void promise01SettingsAsAtFirst() {
        EyeStage s = new EyeStage();
        int[] first = {20, 1, 4, 10};
        for (int what = 0; what < 4; what++) {
            Check.same("setting " + what, s.whole(12 + what), first[what]);
        }
    }

    static void promise01EmptyCommandText() {
        EyeStage s = new EyeStage();
        Check.same("run of nothing", s.runCommands(), 0);
        Check.same("length", s.clearCommands(), 0);
        Check.same("first byte", s.type(32), 1);
    }

    static void promise01EmptyUndoStack() {
        EyeStage s = new EyeStage();
        Check.badState("undo", s, s::undo);
    }

    static void promise01ObjectsShareNothing() {
        EyeStage one = new EyeStage();
        EyeStage two = new EyeStage();
        long before = two.digest();
        one.addBox(NONE, 0, 0, 0, 1, 1);
        one.addScene(0, 0, 1);
        one.set(0, 1);
        one.setTitle(0, 0, 1);
        one.type(65);
        Check.same("the other object", two.digest(), before);
    }

    static void promise01NoneIsMinusThousand() {
        Check.same("NONE", EyeStage.NONE, -1000);
    }

    // ---- promise 2: begin

    static void promise02WidthFrom20To200() {
        Check.valueBounds(20, 200, TreeBoundsTest::furnished, (s, width) -> s.begin(width, 40));
    }

    static void promise02HeightFrom10To120() {
        Check.valueBounds(10, 120, TreeBoundsTest::furnished, (s, height) -> s.begin(80, height));
    }

    static void promise02LeastFrame() {
        EyeStage s = new EyeStage();
        s.begin(20, 10);
        Check.same("W", s.whole(0), 20);
        Check.same("H", s.whole(1), 10);
        Check.same("last cell", s.shade(false, 19, 9), 4);
        Check.noIndex("column 20", s, () -> s.shade(false, 20, 9));
        Check.noIndex("row 10", s, () -> s.shade(false, 19, 10));
    }

    static void promise02GreatestFrame() {
        EyeStage s = new EyeStage();
        s.begin(200, 120);
        Check.same("W", s.whole(0), 200);
        Check.same("H", s.whole(1), 120);
        Check.same("last cell", s.shade(true, 199, 119), 4);
        Check.same("its ghost", s.ghost(199, 119), 0);
        Check.noIndex("column 200", s, () -> s.shade(true, 200, 119));
        Check.noIndex("row 120", s, () -> s.shade(true, 199, 120));
    }

    static void promise02ReturnsTheTimeBefore() {
        EyeStage s = new EyeStage();
        Check.same("at time 0", s.begin(80, 40), 0);
        s.tick(1);
        Check.same("at time 1", s.begin(80, 40), 1);
        Check.same("at time 0 again", s.begin(80, 40), 0);
        s.tick(200);
        s.tick(200);
        Check.same("at time 400", s.begin(80, 40), 400);
    }

    static void promise02NoNodesScenesAndTitle() {
        EyeStage s = furnished();
        s.begin(80, 40);
        Check.same("nodes", s.whole(2), 0);
        Check.same("boxes", s.whole(3), 0);
        Check.same("scenes", s.whole(4), 0);
        Check.same("present scene", s.whole(6), NONE);
        Check.same("title", s.title(2), NONE);
        Check.same("painted", s.painted(0), NONE);
        Check.noIndex("node 0", s, () -> s.node(0, 0));
        Check.noIndex("scene 0", s, () -> s.scene(0, 0));
        Check.same("the next node", s.addGroup(NONE, 0, 0, 0), 0);
        Check.same("the next scene", s.addScene(0, 0, 1), 0);
    }

    static void promise02TimeAndBudgetAsAtFirst() {
        EyeStage s = furnished();
        Check.same("least before", s.whole(7), -7);
        Check.same("greatest before", s.whole(8), 7);
        s.begin(80, 40);
        Check.same("time", s.whole(5), 0);
        Check.same("least", s.whole(7), -5);
        Check.same("greatest", s.whole(8), 5);
    }

    static void promise02SettingsStay() {
        EyeStage s = new EyeStage();
        int[] values = {0, 5, 15, 100};
        for (int what = 0; what < 4; what++) {
            s.set(what, values[what]);
        }
        s.begin(20, 10);
        for (int what = 0; what < 4; what++) {
            Check.same("setting " + what, s.whole(12 + what), values[what]);
        }
    }

    static void promise02CommandTextStays() {
        EyeStage s = new EyeStage();
        s.type(65);
        s.type(66);
        s.begin(20, 10);
        Check.same("text", s.clearCommands(), 2);
    }

    static void promise02Undoable() {
        EyeStage s = furnished();
        s.undo();
        long before = s.digest();
        s.begin(20, 10);
        Check.same("states left", s.undo(), 3);
        Check.same("all is back", s.digest(), before);
    }

    // ---- promise 3: addGroup

    static void promise03ParentIsANodeOrNone() {
        Check.indexBounds(0, 0, () -> nested(1), (s, parent) -> s.addGroup(parent, 0, 0, 0));
        Check.indexBounds(NONE, NONE, () -> nested(1), (s, parent) -> s.addGroup(parent, 0, 0, 0));
        Check.indexBounds(NONE, NONE, EyeStage::new, (s, parent) -> s.addGroup(parent, 0, 0, 0));
        EyeStage s = nested(1);
        Check.noIndex("parent -1", s, () -> s.addGroup(-1, 0, 0, 0));
        EyeStage full = withNodes(19);
        Check.noIndex("parent 19", full, () -> full.addGroup(19, 0, 0, 0));
        Check.same("parent 18", full.addGroup(18, 0, 0, 0), 19);
    }

    static void promise03ParentIsNoBox() {
        EyeStage s = furnished();
        Check.badValue("in the box 1", s, () -> s.addGroup(1, 0, 0, 0));
        Check.badValue("in the box 2", s, () -> s.addGroup(2, 0, 0, 0));
        Check.same("in the group 0", s.addGroup(0, 0, 0, 0), 3);
    }

    static void promise03DxFromMinus200To200() {
        Check.valueBounds(-200, 200, TreeBoundsTest::furnished, (s, dx) -> s.addGroup(0, dx, 0, 0));
    }

    static void promise03DyFromMinus200To200() {
        Check.valueBounds(-200, 200, TreeBoundsTest::furnished, (s, dy) -> s.addGroup(0, 0, dy, 0));
    }

    static void promise03DzFromMinus200To200() {
        Check.valueBounds(-200, 200, TreeBoundsTest::furnished, (s, dz) -> s.addGroup(NONE, 0, 0, dz));
    }

    static void promise03AtMost20Nodes() {
        EyeStage s = withNodes(19);
        Check.same("the 20th", s.addGroup(NONE, 0, 0, 0), 19);
        Check.badState("the 21st", s, () -> s.addGroup(NONE, 0, 0, 0));
        Check.badState("the 21st, in a group", s, () -> s.addGroup(0, 0, 0, 0));
        s.removeNode(19);
        Check.same("the 20th again", s.addGroup(NONE, 0, 0, 0), 19);
    }

    static void promise03AtMost5GroupsAround() {
        EyeStage s = nested(5);
        Check.same("five around it", s.addGroup(4, 0, 0, 0), 5);
        Check.same("counted", s.node(5, 7), 5);
        Check.badState("six around it", s, () -> s.addGroup(5, 0, 0, 0));
        Check.same("five around another", s.addGroup(4, 0, 0, 0), 6);
        Check.same("none around it", s.addGroup(NONE, 0, 0, 0), 7);
    }

    static void promise03TheFirstExceptionListedIsThrown() {
        EyeStage s = nested(6);
        Check.noIndex("no parent, far", s, () -> s.addGroup(6, 201, 0, 0));
        Check.badValue("six around, far", s, () -> s.addGroup(5, 0, -201, 0));
        EyeStage full = withNodes(20);
        Check.noIndex("no parent, far, full", full, () -> full.addGroup(20, 201, 0, 0));
        Check.badValue("far, full", full, () -> full.addGroup(NONE, 0, 0, 201));
        Check.badValue("in a box, full", full, () -> full.addGroup(1, 0, 0, 0));
    }

    static void promise03NumberedFrom0InTheOrderOfAdding() {
        EyeStage s = new EyeStage();
        for (int n = 0; n < 20; n++) {
            Check.same("group " + n, s.addGroup(n == 19 ? 0 : NONE, n, -n, 2 * n), n);
        }
        nodeIs("the first", s, 0, NONE, 0, 0, 0, 0, 0, 0, 0, 1);
        nodeIs("the last", s, 19, 0, 19, -19, 38, 19, -19, 38, 1, 0);
    }

    static void promise03Undoable() {
        EyeStage s = new EyeStage();
        long before = s.digest();
        s.addGroup(NONE, 1, 1, 1);
        Check.same("states left", s.undo(), 0);
        Check.same("all is back", s.digest(), before);
    }

    // ---- promise 4: addBox

    static void promise04ParentIsANodeOrNone() {
        Check.indexBounds(0, 0, () -> nested(1), (s, parent) -> s.addBox(parent, 0, 0, 0, 1, 1));
        Check.indexBounds(NONE, NONE, EyeStage::new, (s, parent) -> s.addBox(parent, 0, 0, 0, 1, 1));
        EyeStage full = withNodes(19);
        Check.noIndex("parent 19", full, () -> full.addBox(19, 0, 0, 0, 1, 1));
        Check.same("parent 18", full.addBox(18, 0, 0, 0, 1, 1), 19);
    }

    static void promise04ParentIsNoBox() {
        EyeStage s = furnished();
        Check.badValue("in the box 1", s, () -> s.addBox(1, 0, 0, 0, 1, 1));
        Check.badValue("in the box 2", s, () -> s.addBox(2, 0, 0, 0, 1, 1));
        Check.same("in the group 0", s.addBox(0, 0, 0, 0, 1, 1), 3);
    }

    static void promise04DxFromMinus200To200() {
        Check.valueBounds(-200, 200, TreeBoundsTest::furnished, (s, dx) -> s.addBox(0, dx, 0, 0, 1, 1));
    }

    static void promise04DyFromMinus200To200() {
        Check.valueBounds(-200, 200, TreeBoundsTest::furnished, (s, dy) -> s.addBox(NONE, 0, dy, 0, 1, 1));
    }

    static void promise04DzFromMinus200To200() {
        Check.valueBounds(-200, 200, TreeBoundsTest::furnished, (s, dz) -> s.addBox(NONE, 0, 0, dz, 1, 1));
    }

    static void promise04WidthFrom1To100() {
        Check.valueBounds(1, 100, TreeBoundsTest::furnished, (s, width) -> s.addBox(NONE, 0, 0, 0, width, 1));
    }

    static void promise04HeightFrom1To100() {
        Check.valueBounds(1, 100, TreeBoundsTest::furnished, (s, height) -> s.addBox(NONE, 0, 0, 0, 1, height));
    }

    static void promise04LeastBoxHasOneCell() {
        EyeStage s = new EyeStage();
        s.addBox(NONE, 7, 5, 0, 1, 1);
        Check.same("its cell", s.shown(true, 7, 5), 0);
        Check.same("left of it", s.shown(true, 6, 5), NONE);
        Check.same("right of it", s.shown(true, 8, 5), NONE);
        Check.same("above it", s.shown(true, 7, 4), NONE);
        Check.same("below it", s.shown(true, 7, 6), NONE);
    }

    static void promise04GreatestBoxHas100Times100Cells() {
        EyeStage s = new EyeStage();
        s.begin(200, 120);
        s.addBox(NONE, 50, 10, 0, 100, 100);
        Check.same("first cell", s.shown(true, 50, 10), 0);
        Check.same("last cell", s.shown(false, 149, 109), 0);
        Check.same("left of it", s.shown(true, 49, 10), NONE);
        Check.same("above it", s.shown(true, 50, 9), NONE);
        Check.same("right of it", s.shown(false, 150, 109), NONE);
        Check.same("below it", s.shown(false, 149, 110), NONE);
    }

    static void promise04AtMost20Nodes() {
        EyeStage s = withNodes(19);
        Check.same("the 20th", s.addBox(18, 0, 0, 0, 1, 1), 19);
        Check.badState("the 21st", s, () -> s.addBox(NONE, 0, 0, 0, 1, 1));
        Check.badState("the 21st, in a group", s, () -> s.addBox(18, 0, 0, 0, 1, 1));
        s.undo();
        Check.same("the 20th again", s.addBox(NONE, 0, 0, 0, 1, 1), 19);
    }

    static void promise04AtMost5GroupsAround() {
        EyeStage s = nested(6);
        Check.same("five around it", s.addBox(4, 0, 0, 0, 1, 1), 6);
        Check.same("counted", s.node(6, 7), 5);
        Check.badState("six around it", s, () -> s.addBox(5, 0, 0, 0, 1, 1));
    }

    static void promise04TheFirstExceptionListedIsThrown() {
        EyeStage s = nested(6);
        Check.noIndex("no parent, flat", s, () -> s.addBox(6, 0, 0, 0, 1, 0));
        Check.noIndex("no parent, far", s, () -> s.addBox(-1, 0, 0, 201, 1, 1));
        Check.badValue("six around, narrow", s, () -> s.addBox(5, 0, 0, 0, 0, 1));
        Check.badValue("six around, high", s, () -> s.addBox(5, 0, 0, 0, 1, 101));
        EyeStage full = withNodes(20);
        Check.noIndex("no parent, wide, full", full, () -> full.addBox(20, 0, 0, 0, 101, 1));
        Check.badValue("wide, full", full, () -> full.addBox(NONE, 0, 0, 0, 101, 1));
        Check.badValue("in a box, full", full, () -> full.addBox(19, 0, 0, 0, 1, 1));
    }

    static void promise04TheShadeIs8AtFirst() {
        EyeStage s = new EyeStage();
        s.addBox(NONE, 0, 0, 0, 1, 1);
        s.setShade(0, 15);
        s.removeNode(0);
        s.addBox(NONE, 0, 0, 0, 1, 1);
        Check.same("value", s.node(0, 11), 8);
        Check.same("cell", s.shade(true, 0, 0), 8);
        Check.same("beside it", s.shade(true, 1, 0), 4);
    }

    static void promise04NumberedFrom0InTheOrderOfAdding() {
        EyeStage s = new EyeStage();
        for (int n = 0; n < 20; n++) {
            Check.same("box " + n, s.addBox(NONE, n, n, 0, n + 1, 20 - n), n);
        }
        Check.same("width of the first", s.node(0, 9), 1);
        Check.same("width of the last", s.node(19, 9), 20);
        Check.same("height of the last", s.node(19, 10), 1);
    }

    static void promise04Undoable() {
        EyeStage s = new EyeStage();
        long before = s.digest();
        s.addBox(NONE, 1, 1, 1, 1, 1);
        Check.same("states left", s.undo(), 0);
        Check.same("all is back", s.digest(), before);
    }

    // ---- promise 5: move

    static void promise05NodeIsThere() {
        Check.indexBounds(0, 2, TreeBoundsTest::furnished, (s, node) -> s.move(node, 0, 0, 0));
        Check.indexBounds(0, 19, () -> withNodes(20), (s, node) -> s.move(node, 0, 0, 0));
        EyeStage empty = new EyeStage();
        Check.noIndex("in an empty tree", empty, () -> empty.move(0, 0, 0, 0));
        Check.noIndex("NONE", empty, () -> empty.move(NONE, 0, 0, 0));
    }

    static void promise05DxFromMinus200To200() {
        Check.valueBounds(-200, 200, TreeBoundsTest::furnished, (s, dx) -> s.move(0, dx, 0, 0));
    }

    static void promise05DyFromMinus200To200() {
        Check.valueBounds(-200, 200, TreeBoundsTest::furnished, (s, dy) -> s.move(1, 0, dy, 0));
    }

    static void promise05DzFromMinus200To200() {
        Check.valueBounds(-200, 200, TreeBoundsTest::furnished, (s, dz) -> s.move(2, 0, 0, dz));
    }

    static void promise05TheFirstExceptionListedIsThrown() {
        EyeStage s = furnished();
        Check.noIndex("no node, far", s, () -> s.move(3, 201, 0, 0));
        Check.noIndex("no node, deep", s, () -> s.move(-1, 0, 0, -201));
        Check.badValue("a node, far", s, () -> s.move(2, 201, 0, 0));
    }

    static void promise05ReturnsThePreviousDz() {
        EyeStage s = furnished();
        Check.same("of the group", s.move(0, 0, 0, -200), 5);
        Check.same("of the group again", s.move(0, 0, 0, 200), -200);
        Check.same("of the box, not its depth", s.move(1, 0, 0, 1), 20);
        Check.same("of the box again", s.move(1, 0, 0, 0), 1);
    }

    static void promise05AGroupTakesAlongWhatIsInIt() {
        EyeStage s = furnished();
        s.move(0, -200, 200, 0);
        nodeIs("the box in it", s, 1, 0, 1, 2, 20, -199, 202, 20, 1, 0, 6, 5, 8);
        nodeIs("the box beside it", s, 2, NONE, 30, 10, -40, 30, 10, -40, 0, 0, 12, 8, 8);
    }

    static void promise05UndoableAlsoIfItChangesNothing() {
        EyeStage s = new EyeStage();
        s.addBox(NONE, 1, 2, 3, 4, 5);
        s.move(0, 1, 2, 3);
        Check.same("states left", s.undo(), 1);
        s.move(0, 0, 0, 0);
        Check.same("states left", s.undo(), 1);
        nodeIs("back", s, 0, NONE, 1, 2, 3);
    }

    // ---- promise 6: setShade

    static void promise06NodeIsThere() {
        Check.indexBounds(0, 1, () -> withBoxes(2), (s, node) -> s.setShade(node, 3));
        EyeStage s = withNodes(20);
        Check.same("the last node", s.setShade(19, 3), 8);
        Check.noIndex("node 20", s, () -> s.setShade(20, 3));
        EyeStage empty = new EyeStage();
        Check.noIndex("in an empty tree", empty, () -> empty.setShade(0, 3));
    }

    static void promise06NodeIsNoGroup() {
        EyeStage s = furnished();
        Check.badValue("the group 0", s, () -> s.setShade(0, 8));
        Check.same("the box 1", s.setShade(1, 8), 8);
    }

    static void promise06ShadeFrom0To15() {
        Check.valueBounds(0, 15, TreeBoundsTest::furnished, (s, shade) -> s.setShade(2, shade));
    }

    static void promise06LeastAndGreatestShadeAreSeen() {
        EyeStage s = new EyeStage();
        s.addBox(NONE, 0, 0, 0, 1, 1);
        s.setShade(0, 0);
        Check.same("value 0", s.node(0, 11), 0);
        Check.same("cell 0", s.shade(true, 0, 0), 0);
        s.setShade(0, 15);
        Check.same("value 15", s.node(0, 11), 15);
        Check.same("cell 15", s.shade(false, 0, 0), 15);
    }

    static void promise06TheFirstExceptionListedIsThrown() {
        EyeStage s = furnished();
        Check.noIndex("no node, no shade", s, () -> s.setShade(3, 16));
        Check.noIndex("no node, no shade", s, () -> s.setShade(-1, -1));
    }

    static void promise06ReturnsThePreviousShade() {
        EyeStage s = furnished();
        Check.same("at first", s.setShade(1, 0), 8);
        Check.same("after 0", s.setShade(1, 15), 0);
        Check.same("after 15", s.setShade(1, 3), 15);
        Check.same("of the other box", s.setShade(2, 3), 8);
    }

    static void promise06UndoableAlsoIfItChangesNothing() {
        EyeStage s = new EyeStage();
        s.addBox(NONE, 1, 2, 3, 4, 5);
        s.setShade(0, 8);
        Check.same("states left", s.undo(), 1);
        s.setShade(0, 9);
        Check.same("states left", s.undo(), 1);
        Check.same("back", s.node(0, 11), 8);
    }

    // ---- promise 7: removeNode

    static void promise07NodeIsThere() {
        Check.indexBounds(0, 2, TreeBoundsTest::furnished, EyeStage::removeNode);
        Check.indexBounds(0, 19, () -> withNodes(20), EyeStage::removeNode);
        EyeStage empty = new EyeStage();
        Check.noIndex("in an empty tree", empty, () -> empty.removeNode(0));
        Check.noIndex("NONE", empty, () -> empty.removeNode(NONE));
    }

    static void promise07ReturnsHowManyAreLeft() {
        EyeStage s = withNodes(20);
        Check.same("without a box", s.removeNode(19), 19);
        Check.same("without an empty group", s.removeNode(18), 18);
        Check.same("without a group and its box", s.removeNode(0), 16);
        EyeStage one = withNodes(1);
        Check.same("without the only one", one.removeNode(0), 0);
        Check.noIndex("none is left", one, () -> one.removeNode(0));
    }

    static void promise07TakesAllThatIsInItAndSoOn() {
        EyeStage s = nested(6);
        s.addBox(4, 0, 0, 0, 1, 1);
        s.addBox(NONE, 9, 0, 0, 9, 9);
        s.addBox(0, 8, 0, 0, 8, 8);
        Check.same("without the innermost", s.removeNode(5), 8);
        Check.same("without the outermost", s.removeNode(0), 1);
        nodeIs("what is left", s, 0, NONE, 9, 0, 0, 9, 0, 0, 0, 0, 9, 9);
    }

    static void promise07TheOthersKeepTheirOrderAndAreNumberedAnew() {
        EyeStage s = new EyeStage();
        s.addGroup(NONE, 1, 11, 21);
        s.addGroup(NONE, 2, 12, 22);
        s.addGroup(0, 3, 13, 23);
        s.addBox(1, 4, 14, 24, 34, 44);
        s.addBox(2, 5, 15, 25, 35, 45);
        s.addBox(1, 6, 16, 26, 36, 46);
        s.setShade(5, 13);
        Check.same("without 0, 2 and 4", s.removeNode(0), 3);
        nodeIs("old 1", s, 0, NONE, 2, 12, 22, 2, 12, 22, 0, 2, NONE, NONE, NONE);
        nodeIs("old 3", s, 1, 0, 4, 14, 24, 6, 26, 46, 1, 0, 34, 44, 8);
        nodeIs("old 5", s, 2, 0, 6, 16, 26, 8, 28, 48, 1, 0, 36, 46, 13);
        Check.noIndex("node 3", s, () -> s.node(3, 0));
        Check.same("the next one", s.addBox(0, 0, 0, 0, 1, 1), 3);
    }

    static void promise07WhatStandsBeforeKeepsItsNumber() {
        EyeStage s = withNodes(20);
        s.setShade(1, 2);
        s.setShade(19, 7);
        Check.same("without 17", s.removeNode(17), 19);
        Check.same("1 stays", s.node(1, 11), 2);
        Check.same("16 stays, empty", s.node(16, 8), 0);
        Check.same("19 is 18", s.node(18, 11), 7);
        Check.same("its parent is 17", s.node(18, 0), 17);
    }

    static void promise07Undoable() {
        EyeStage s = withNodes(20);
        s.undo();
        long before = s.digest();
        s.removeNode(0);
        Check.same("states left", s.undo(), 3);
        Check.same("all is back", s.digest(), before);
    }

    static void promise07UndoableWithGroupsInGroups() {
        EyeStage s = new EyeStage();
        s.addBox(NONE, 1, 2, 3, 4, 5);
        s.addGroup(NONE, 6, 7, 8);
        s.addGroup(1, 9, 10, 11);
        s.removeNode(0);
        Check.same("old 2", s.node(1, 7), 1);
        s.undo();
        nodeIs("the box 0", s, 0, NONE, 1, 2, 3, 1, 2, 3, 0, 0, 4, 5, 8);
        nodeIs("the group 1", s, 1, NONE, 6, 7, 8, 6, 7, 8, 0, 1);
        nodeIs("the group 2", s, 2, 1, 9, 10, 11, 15, 17, 19, 1, 0);
    }

    // ---- promise 13: node

    static void promise13NodeIsThere() {
        Check.indexBounds(0, 2, TreeBoundsTest::furnished, (s, node) -> s.node(node, 0));
        Check.indexBounds(0, 19, () -> withNodes(20), (s, node) -> s.node(node, 15));
    }

    static void promise13WhatFrom0To15() {
        Check.valueBounds(0, 15, TreeBoundsTest::furnished, (s, what) -> s.node(0, what));
        Check.valueBounds(0, 15, TreeBoundsTest::furnished, (s, what) -> s.node(1, what));
    }

    static void promise13TheFirstExceptionListedIsThrown() {
        EyeStage s = furnished();
        Check.noIndex("no node, no what", s, () -> s.node(3, 16));
        Check.noIndex("no node, no what", s, () -> s.node(-1, -1));
    }

    static void promise13ParentIsNoneForTheOutermost() {
        EyeStage s = furnished();
        Check.same("outermost group", s.node(0, 0), NONE);
        Check.same("box in it", s.node(1, 0), 0);
        Check.same("outermost box", s.node(2, 0), NONE);
    }

    static void promise13ValuesOfABoxAreNoneForAGroup() {
        EyeStage s = furnished();
        for (int what = 0; what <= 15; what++) {
            if (what < 9 && what != 0) {
                Check.differs("group, " + what, s.node(0, what), NONE);
            } else {
                Check.same("group, " + what, s.node(0, what), NONE);
            }
            Check.differs("box, " + what, s.node(1, what), NONE);
        }
    }

    static void promise13NodesDirectlyInIt() {
        EyeStage s = nested(3);
        s.addBox(1, 0, 0, 0, 1, 1);
        s.addBox(1, 0, 0, 0, 1, 1);
        Check.same("the outermost", s.node(0, 8), 1);
        Check.same("the middle one", s.node(1, 8), 3);
        Check.same("the empty one", s.node(2, 8), 0);
        Check.same("a box", s.node(3, 8), 0);
    }

    static void promise13GroupsAroundFrom0To5() {
        EyeStage s = nested(5);
        s.addBox(4, 0, 0, 0, 1, 1);
        for (int n = 0; n <= 5; n++) {
            Check.same("node " + n, s.node(n, 7), n);
        }
    }

    static void promise13SumsAtTheirEnds() {
        EyeStage s = new EyeStage();
        for (int n = 0; n < 5; n++) {
            s.addGroup(n == 0 ? NONE : n - 1, 200, -200, 200);
        }
        s.addBox(4, 200, -200, 200, 1, 1);
        s.addBox(4, 199, -199, 199, 1, 1);
        nodeIs("the outermost", s, 0, NONE, 200, -200, 200, 200, -200, 200);
        nodeIs("the box", s, 5, 4, 200, -200, 200, 1200, -1200, 1200, 5, 0);
        nodeIs("the other box", s, 6, 4, 199, -199, 199, 1199, -1199, 1199, 5, 0);
        s.set(0, 100);
        Check.same("raw shift", s.node(5, 12), 1200);
        for (int n = 0; n < 6; n++) {
            s.move(n, -200, 200, -200);
        }
        nodeIs("the box", s, 5, 4, -200, 200, -200, -1200, 1200, -1200, 5, 0);
        Check.same("raw shift", s.node(5, 12), -1200);
        // -1200 and -1001 come to no less than -5 with 0 percent alone.
        Check.same("shift", s.node(5, 13), 0);
        Check.same("left column", s.node(5, 14), -1200);
        Check.same("right column", s.node(5, 15), -1200);
    }

    static void promise13RawShiftIsRoundedTowardsMinusInfinity() {
        int[][] due = {{0, 0}, {4, 0}, {5, 1}, {9, 1}, {10, 2}, {-1, -1}, {-5, -1}, {-6, -2}, {200, 40}, {-200, -40}};
        for (int[] depthAndShift : due) {
            EyeStage s = withBox(depthAndShift[0]);
            Check.same("raw shift of " + depthAndShift[0], s.node(0, 12), depthAndShift[1]);
        }
    }

    static void promise13RawShiftWithTheLeastAndTheGreatestGain() {
        EyeStage s = withBox(-199);
        s.set(0, 0);
        Check.same("gain 0", s.node(0, 12), 0);
        s.set(0, 1);
        Check.same("gain 1", s.node(0, 12), -2);
        s.set(0, 99);
        Check.same("gain 99", s.node(0, 12), -198);
        s.set(0, 100);
        Check.same("gain 100", s.node(0, 12), -199);
    }

    static void promise13ShiftAtTheBudgetAndBeyondIt() {
        // With the gain 20 the raw shifts are 5, 6, -5 and -6; the percentages 100, 99, 100 and 83.
        int[][] due = {{25, 5, 5}, {30, 6, 5}, {-25, -5, -5}, {-26, -6, -5}};
        for (int[] row : due) {
            EyeStage s = withBox(row[0]);
            Check.same("raw shift of " + row[0], s.node(0, 12), row[1]);
            Check.same("shift of " + row[0], s.node(0, 13), row[2]);
        }
    }

    static void promise13ShiftIsRoundedTowardsMinusInfinity() {
        EyeStage s = withBox(5);
        s.addBox(NONE, 50, 5, -5, 2, 2);
        s.addBox(NONE, 50, 5, 50, 2, 2);
        // 10 needs 59 percent to come to 5; 1 comes to 0 with them, and -1 to -1.
        Check.same("percentage", s.whole(9), 59);
        Check.same("1", s.node(0, 13), 0);
        Check.same("-1", s.node(1, 13), -1);
        Check.same("10", s.node(2, 13), 5);
    }

    static void promise13ColumnsOfEvenAndOddShifts() {
        int[] left = {48, 48, 49, 49, 50, 50, 51, 51, 52, 52, 53};
        int[] right = {53, 52, 52, 51, 51, 50, 50, 49, 49, 48, 48};
        for (int shift = -5; shift <= 5; shift++) {
            EyeStage s = withBox(5 * shift);
            Check.same("shift", s.node(0, 13), shift);
            Check.same("left column of " + shift, s.node(0, 14), left[shift + 5]);
            Check.same("right column of " + shift, s.node(0, 15), right[shift + 5]);
        }
    }

    // ---- promise 14: painted

    static void promise14PlaceIsNotNegative() {
        EyeStage s = furnished();
        Check.badValue("place -1", s, () -> s.painted(-1));
        Check.badValue("least place", s, () -> s.painted(Integer.MIN_VALUE));
        Check.same("place 0", s.painted(0), 2);
        EyeStage empty = new EyeStage();
        Check.badValue("place -1 without boxes", empty, () -> empty.painted(-1));
        Check.same("place 0 without boxes", empty.painted(0), NONE);
    }

    static void promise14NoneBeyondTheBoxes() {
        EyeStage s = furnished();
        Check.same("the last box", s.painted(1), 1);
        Check.same("place 2", s.painted(2), NONE);
        Check.same("the greatest place", s.painted(Integer.MAX_VALUE), NONE);
        EyeStage groups = nested(6);
        Check.same("groups alone", groups.painted(0), NONE);
        EyeStage full = withBoxes(20);
        Check.same("the 20th box", full.painted(19), 19);
        Check.same("place 20", full.painted(20), NONE);
    }

    static void promise14ByAscendingShifts() {
        EyeStage s = new EyeStage();
        for (int n = 0; n < 11; n++) {
            s.addBox(NONE, 0, 0, 25 - 5 * n, 1, 1);
        }
        for (int place = 0; place < 11; place++) {
            Check.same("place " + place, s.painted(place), 10 - place);
        }
    }

    static void promise14EqualShiftsByAscendingNumbers() {
        EyeStage s = new EyeStage();
        // Depths of 0 and 4 have the shift 0, those of 5 and 9 the shift 1.
        int[] depths = {9, 4, 5, 0, 9, 4};
        for (int depth : depths) {
            s.addBox(NONE, 0, 0, depth, 1, 1);
        }
        int[] due = {1, 3, 5, 0, 2, 4};
        for (int place = 0; place < due.length; place++) {
            Check.same("place " + place, s.painted(place), due[place]);
        }
    }

    static void promise14AnewAfterEachChange() {
        EyeStage s = withBoxes(3);
        int[][] due = {{0, 1, 2}, {1, 2, 0}, {2, 0, 1}};
        for (int n = 0; n < 3; n++) {
            for (int place = 0; place < 3; place++) {
                Check.same("place " + place + " after " + n + " moves", s.painted(place), due[n][place]);
            }
            Check.same("place 3 after " + n + " moves", s.painted(3), NONE);
            s.move(n, 0, 0, 5 + 5 * n);
        }
        s.removeNode(0);
        Check.same("place 0 without the first", s.painted(0), 0);
        Check.same("place 1 without the first", s.painted(1), 1);
        Check.same("place 2 without the first", s.painted(2), NONE);
    }
}
