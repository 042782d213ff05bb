/** Promises 1 to 7 and 13, 14: a new object, the tree, its values and the order of painting. */
public final class TreeTest {
    private static final int NONE = EyeStage.NONE;
    private static final int[] FAR = {Integer.MIN_VALUE, -201, 201, Integer.MAX_VALUE};

    private TreeTest() {
    }

    public static void main(String[] args) {
        newObject();
        begin();
        addGroup();
        addBox();
        move();
        setShade();
        removeNode();
        nodeValues();
        painted();
        Check.end("TreeTest");
    }

    private static void newObject() {
        EyeStage s = new EyeStage();
        int[] first = {80, 40, 0, 0, 0, 0, NONE, -5, 5, 100, 0, 0, 20, 1, 4, 10};
        for (int what = 0; what < first.length; what++) {
            Check.same("new whole(" + what + ")", s.whole(what), first[what]);
        }
        for (int what = 0; what < 7; what++) {
            Check.same("new title(" + what + ")", s.title(what), NONE);
        }
        Check.same("new painted", s.painted(0), NONE);
        Check.same("new shade", s.shade(true, 79, 39), 4);
        Check.badState("new undo", s, s::undo);
        Check.same("new text", s.clearCommands(), 0);
        Check.same("the constant", NONE, -1000);
    }

    private static void begin() {
        EyeStage s = new EyeStage();
        s.addBox(NONE, 1, 1, 1, 1, 1);
        s.set(0, 33);
        s.addScene(-9, 9, 4);
        s.setTitle(1, 1, 1);
        s.tick(7);
        Check.badValue("begin(19, 10)", s, () -> s.begin(19, 10));
        Check.badValue("begin(201, 10)", s, () -> s.begin(201, 10));
        Check.badValue("begin(20, 9)", s, () -> s.begin(20, 9));
        Check.badValue("begin(20, 121)", s, () -> s.begin(20, 121));
        Check.same("begin(20, 10)", s.begin(20, 10), 7);
        int[] due = {20, 10, 0, 0, 0, 0, NONE, -5, 5, 100, 0, 0, 33, 1, 4, 10};
        for (int what = 0; what < due.length; what++) {
            Check.same("whole(" + what + ") after begin", s.whole(what), due[what]);
        }
        Check.same("title after begin", s.title(2), NONE);
        s.undo();
        Check.same("scene after undo", s.scene(0, 1), 9);
        Check.same("time after undo", s.whole(5), 7);
        Check.same("begin(200, 120)", s.begin(200, 120), 7);
        Check.same("begin again", s.begin(30, 11), 0);
        Check.same("undo of begin", s.undo(), 3);
        Check.same("width again", s.whole(0), 200);
    }

    private static void addGroup() {
        EyeStage s = new EyeStage();
        Check.noIndex("parent -1", s, () -> s.addGroup(-1, 0, 0, 0));
        Check.noIndex("parent 0", s, () -> s.addGroup(0, 0, 0, 0));
        Check.noIndex("parent -1001", s, () -> s.addGroup(-1001, 300, 0, 0));
        Check.same("outermost", s.addGroup(NONE, -200, 200, -200), 0);
        for (int far : FAR) {
            Check.badValue("dx " + far, s, () -> s.addGroup(0, far, 0, 0));
            Check.badValue("dy " + far, s, () -> s.addGroup(0, 0, far, 0));
            Check.badValue("dz " + far, s, () -> s.addGroup(NONE, 0, 0, far));
        }
        for (int n = 1; n < 6; n++) {
            Check.same("group around " + n, s.addGroup(n - 1, 1, 1, 1), n);
        }
        Check.same("five around", s.node(5, 7), 5);
        Check.badState("six around", s, () -> s.addGroup(5, 0, 0, 0));
        Check.badValue("six around and far", s, () -> s.addGroup(5, 201, 0, 0));
        Check.same("a box", s.addBox(4, 0, 0, 0, 1, 1), 6);
        Check.badValue("in a box", s, () -> s.addGroup(6, 0, 0, 0));
        for (int n = 7; n < 20; n++) {
            Check.same("group " + n, s.addGroup(NONE, 0, 0, 0), n);
        }
        Check.badState("21 nodes", s, () -> s.addGroup(NONE, 0, 0, 0));
        Check.badValue("21 nodes in a box", s, () -> s.addGroup(6, 0, 0, 0));
        Check.noIndex("21 nodes in none", s, () -> s.addGroup(20, 0, 0, 0));
        s.undo();
        Check.same("undone", s.whole(2), 19);
        Check.same("boxes", s.whole(3), 1);
    }

    private static void addBox() {
        EyeStage s = new EyeStage();
        Check.noIndex("parent 0", s, () -> s.addBox(0, 0, 0, 0, 0, 0));
        Check.same("box 0", s.addBox(NONE, -200, -200, -200, 1, 1), 0);
        Check.same("box 1", s.addBox(NONE, 200, 200, 200, 100, 100), 1);
        Check.badValue("in a box", s, () -> s.addBox(1, 0, 0, 0, 1, 1));
        for (int far : FAR) {
            Check.badValue("dx " + far, s, () -> s.addBox(NONE, far, 0, 0, 1, 1));
            Check.badValue("dy " + far, s, () -> s.addBox(NONE, 0, far, 0, 1, 1));
            Check.badValue("dz " + far, s, () -> s.addBox(NONE, 0, 0, far, 1, 1));
        }
        for (int size : new int[] {Integer.MIN_VALUE, -1, 0, 101, Integer.MAX_VALUE}) {
            Check.badValue("width " + size, s, () -> s.addBox(NONE, 0, 0, 0, size, 1));
            Check.badValue("height " + size, s, () -> s.addBox(NONE, 0, 0, 0, 1, size));
        }
        int group = NONE;
        for (int n = 0; n < 6; n++) {
            group = s.addGroup(group, 0, 0, 0);
        }
        int inner = group;
        Check.badState("six around", s, () -> s.addBox(inner, 0, 0, 0, 1, 1));
        Check.badValue("six around and flat", s, () -> s.addBox(inner, 0, 0, 0, 1, 0));
        Check.same("five around", s.addBox(inner - 1, 0, 0, 0, 1, 1), 8);
        Check.same("shade at first", s.node(8, 11), 8);
        while (s.whole(2) < 20) {
            s.addBox(NONE, 0, 0, 0, 1, 1);
        }
        Check.badState("21 nodes", s, () -> s.addBox(NONE, 0, 0, 0, 1, 1));
        Check.badValue("21 nodes and wide", s, () -> s.addBox(NONE, 0, 0, 0, 101, 1));
        Check.noIndex("21 nodes and no parent", s, () -> s.addBox(-7, 0, 0, 0, 101, 1));
        Check.same("undo", s.undo(), 3);
        Check.same("undone", s.whole(3), 13);
    }

    private static void move() {
        EyeStage s = new EyeStage();
        Check.noIndex("no node", s, () -> s.move(0, 0, 0, 0));
        Check.noIndex("no node and far", s, () -> s.move(NONE, 300, 0, 0));
        s.addGroup(NONE, 1, 2, 3);
        s.addBox(0, 10, 20, 30, 1, 1);
        Check.same("move", s.move(0, -5, 200, -200), 3);
        Check.same("x", s.node(1, 4), 5);
        Check.same("y", s.node(1, 5), 220);
        Check.same("z", s.node(1, 6), -170);
        Check.same("move back", s.move(0, 1, 2, 3), -200);
        for (int far : FAR) {
            Check.badValue("dx " + far, s, () -> s.move(1, far, 0, 0));
            Check.badValue("dy " + far, s, () -> s.move(1, 0, far, 0));
            Check.badValue("dz " + far, s, () -> s.move(0, 0, 0, far));
        }
        Check.noIndex("node 2", s, () -> s.move(2, 0, 0, 0));
        s.undo();
        Check.same("dy undone", s.node(0, 2), 200);
    }

    private static void setShade() {
        EyeStage s = new EyeStage();
        Check.noIndex("no node", s, () -> s.setShade(0, 99));
        s.addGroup(NONE, 0, 0, 0);
        s.addBox(NONE, 0, 0, 0, 2, 2);
        Check.badValue("a group", s, () -> s.setShade(0, 3));
        Check.badValue("shade -1", s, () -> s.setShade(1, -1));
        Check.badValue("shade 16", s, () -> s.setShade(1, 16));
        Check.noIndex("node 2", s, () -> s.setShade(2, 3));
        Check.same("to 0", s.setShade(1, 0), 8);
        Check.same("to 15", s.setShade(1, 15), 0);
        Check.same("seen", s.shade(false, 1, 1), 15);
        Check.same("undo", s.undo(), 3);
        Check.same("seen undone", s.shade(false, 1, 1), 0);
    }

    private static void removeNode() {
        EyeStage s = new EyeStage();
        Check.noIndex("no node", s, () -> s.removeNode(0));
        s.addGroup(NONE, 1, 0, 0);
        s.addGroup(NONE, 2, 0, 0);
        s.addBox(0, 3, 0, 0, 3, 3);
        s.addGroup(0, 4, 0, 0);
        s.addBox(1, 5, 0, 0, 5, 5);
        s.addBox(3, 6, 0, 0, 6, 6);
        s.addBox(1, 7, 0, 0, 7, 7);
        s.setShade(6, 11);
        Check.noIndex("node 7", s, () -> s.removeNode(7));
        Check.noIndex("node NONE", s, () -> s.removeNode(NONE));
        Check.same("without 0", s.removeNode(0), 3);
        int[][] due = {{NONE, 2, 0}, {0, 5, 1}, {0, 7, 1}};
        for (int n = 0; n < 3; n++) {
            Check.same("parent of " + n, s.node(n, 0), due[n][0]);
            Check.same("dx of " + n, s.node(n, 1), due[n][1]);
            Check.same("around " + n, s.node(n, 7), due[n][2]);
        }
        Check.same("shade of 2", s.node(2, 11), 11);
        Check.same("width of 2", s.node(2, 9), 7);
        Check.same("undo", s.undo(), 3);
        Check.same("all again", s.whole(2), 7);
        Check.same("parent of 5 again", s.node(5, 0), 3);
        Check.same("without 5", s.removeNode(5), 6);
        Check.same("old 6", s.node(5, 11), 11);
        Check.same("without 1", s.removeNode(1), 3);
    }

    private static void nodeValues() {
        EyeStage s = new EyeStage();
        Check.noIndex("no node, what 16", s, () -> s.node(0, 16));
        s.addGroup(NONE, 10, -5, 20);
        s.addBox(0, 2, 1, 5, 10, 6);
        s.addBox(0, 0, 0, -21, 4, 3);
        s.addGroup(0, 0, 0, 0);
        s.addBox(3, 0, 0, -40, 1, 1);
        Check.badValue("what -1", s, () -> s.node(0, -1));
        Check.badValue("what 16", s, () -> s.node(0, 16));
        Check.noIndex("node 5", s, () -> s.node(5, -1));
        Check.noIndex("node -1", s, () -> s.node(-1, 0));
        int[][] due = {
            {NONE, 10, -5, 20, 10, -5, 20, 0, 3, NONE, NONE, NONE, NONE, NONE, NONE, NONE},
            {0, 2, 1, 5, 12, -4, 25, 1, 0, 10, 6, 8, 5, 5, 15, 10},
            {0, 0, 0, -21, 10, -5, -1, 1, 0, 4, 3, 8, -1, -1, 10, 11},
            {0, 0, 0, 0, 10, -5, 20, 1, 1, NONE, NONE, NONE, NONE, NONE, NONE, NONE},
            {3, 0, 0, -40, 10, -5, -20, 2, 0, 1, 1, 8, -4, -4, 8, 12}};
        for (int n = 0; n < due.length; n++) {
            for (int what = 0; what < 16; what++) {
                Check.same("node(" + n + ", " + what + ")", s.node(n, what), due[n][what]);
            }
        }
        s.set(0, 30);
        // Raw shifts 7, -1 and -6: with 83 percent 7 comes to 5 and -6 to -5; with 84 it comes to -6.
        Check.same("percentage", s.whole(9), 83);
        Check.same("shift of 1", s.node(1, 13), 5);
        Check.same("shift of 2", s.node(2, 13), -1);
        Check.same("shift of 4", s.node(4, 13), -5);
        Check.same("left column of 4", s.node(4, 14), 8);
        Check.same("right column of 4", s.node(4, 15), 13);
    }

    private static void painted() {
        EyeStage s = new EyeStage();
        Check.badValue("place -1", s, () -> s.painted(-1));
        Check.badValue("least place", s, () -> s.painted(Integer.MIN_VALUE));
        s.addBox(NONE, 0, 0, 20, 1, 1);
        s.addGroup(NONE, 0, 0, -20);
        s.addBox(NONE, 0, 0, 0, 1, 1);
        s.addBox(NONE, 0, 0, 20, 1, 1);
        s.addBox(1, 0, 0, 0, 1, 1);
        s.addBox(NONE, 0, 0, 1, 1, 1);
        int[] due = {4, 2, 5, 0, 3, NONE, NONE};
        for (int place = 0; place < due.length; place++) {
            Check.same("painted(" + place + ")", s.painted(place), due[place]);
        }
        Check.same("painted far", s.painted(Integer.MAX_VALUE), NONE);
    }
}
