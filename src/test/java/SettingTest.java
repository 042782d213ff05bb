/** Promises 8 to 12, 15 and 17: scenes, settings, setting the title, time and budget, values of the whole. */
public final class SettingTest {
    private static final int NONE = EyeStage.NONE;

    private SettingTest() {
    }

    public static void main(String[] args) {
        addScene();
        set();
        setTitle();
        clearTitle();
        tick();
        presentScene();
        scene();
        whole();
        window();
        windowOfWholeFrame();
        Check.end("SettingTest");
    }

    private static void addScene() {
        EyeStage s = new EyeStage();
        Check.badValue("least -21", s, () -> s.addScene(-21, 0, 1));
        Check.badValue("least 1", s, () -> s.addScene(1, 0, 1));
        Check.badValue("greatest -1", s, () -> s.addScene(0, -1, 1));
        Check.badValue("greatest 21", s, () -> s.addScene(0, 21, 1));
        Check.badValue("ticks 0", s, () -> s.addScene(0, 0, 0));
        Check.badValue("ticks 51", s, () -> s.addScene(0, 0, 51));
        for (int n = 0; n < 8; n++) {
            Check.same("scene " + n, s.addScene(n % 2 == 0 ? -20 : 0, n % 2 == 0 ? 20 : 0, n < 7 ? 1 : 50), n);
        }
        Check.badState("scene 8", s, () -> s.addScene(0, 0, 1));
        Check.badValue("scene 8 that is wrong", s, () -> s.addScene(0, 0, 0));
        Check.same("budget does not jump", s.whole(7), -5);
        s.undo();
        Check.same("undone", s.whole(4), 7);
    }

    private static void set() {
        EyeStage s = new EyeStage();
        int[] first = {20, 1, 4, 10};
        int[] least = {0, 1, 0, 0};
        int[] greatest = {100, 5, 15, 100};
        for (int what = 0; what < 4; what++) {
            int w = what;
            Check.badValue("too little " + w, s, () -> s.set(w, least[w] - 1));
            Check.badValue("too much " + w, s, () -> s.set(w, greatest[w] + 1));
            Check.same("least " + w, s.set(w, least[w]), first[w]);
            Check.same("greatest " + w, s.set(w, greatest[w]), least[w]);
            Check.same("value " + w, s.whole(12 + w), greatest[w]);
            s.undo();
            Check.same("value undone " + w, s.whole(12 + w), least[w]);
        }
        Check.badValue("what -1", s, () -> s.set(-1, 1));
        Check.badValue("what 4", s, () -> s.set(4, 1));
        s.set(2, 13);
        Check.same("background", s.shade(true, 3, 3), 13);
    }

    private static void setTitle() {
        EyeStage s = new EyeStage();
        s.begin(30, 12);
        Check.badValue("x -1", s, () -> s.setTitle(-1, 0, 1));
        Check.badValue("x 30", s, () -> s.setTitle(30, 0, 1));
        Check.badValue("y -1", s, () -> s.setTitle(0, -1, 1));
        Check.badValue("y 12", s, () -> s.setTitle(0, 12, 1));
        Check.badValue("length 0", s, () -> s.setTitle(0, 0, 0));
        Check.badValue("length 41", s, () -> s.setTitle(0, 0, 41));
        Check.same("first", s.setTitle(29, 11, 1), 0);
        Check.same("second", s.setTitle(0, 0, 40), 1);
        Check.same("length", s.title(2), 40);
        s.undo();
        Check.same("x undone", s.title(0), 29);
        Check.same("y undone", s.title(1), 11);
    }

    private static void clearTitle() {
        EyeStage s = new EyeStage();
        Check.same("none", s.clearTitle(), 0);
        s.setTitle(3, 4, 5);
        Check.same("one", s.clearTitle(), 5);
        Check.same("gone", s.title(0), NONE);
        Check.same("undo", s.undo(), 2);
        Check.same("back", s.title(0), 3);
        Check.same("undo", s.undo(), 1);
        Check.same("a clearing of nothing is saved too", s.undo(), 0);
    }

    private static void tick() {
        EyeStage s = new EyeStage();
        Check.badValue("ticks 0", s, () -> s.tick(0));
        Check.badValue("ticks 201", s, () -> s.tick(201));
        Check.badValue("ticks -1", s, () -> s.tick(-1));
        Check.same("without scenes", s.tick(200), 200);
        Check.same("least stays", s.whole(7), -5);
        s.begin(80, 40);
        s.set(1, 4);
        s.addScene(-20, 0, 2);
        s.addScene(-1, 20, 50);
        // The second tick comes to time 2, which is in the second scene.
        int[][] due = {{-9, 1}, {-5, 5}, {-1, 9}, {-1, 13}, {-1, 17}, {-1, 20}, {-1, 20}};
        for (int n = 0; n < due.length; n++) {
            Check.same("time", s.tick(1), n + 1);
            Check.same("least at " + (n + 1), s.whole(7), due[n][0]);
            Check.same("greatest at " + (n + 1), s.whole(8), due[n][1]);
        }
        s.undo();
        s.undo();
        Check.same("time undone", s.whole(5), 5);
        Check.same("greatest undone", s.whole(8), 17);
        Check.same("the rest at once", s.tick(100), 105);
        Check.same("greatest", s.whole(8), 20);
    }

    private static void presentScene() {
        EyeStage s = new EyeStage();
        Check.same("none", s.whole(6), NONE);
        s.addScene(0, 0, 2);
        s.addScene(0, 0, 3);
        s.addScene(0, 0, 1);
        int[] due = {0, 0, 1, 1, 1, 2, 2, 2};
        for (int time = 0; time < due.length; time++) {
            Check.same("at " + time, s.whole(6), due[time]);
            s.tick(1);
        }
        s.addScene(0, 0, 1);
        Check.same("a later one takes over", s.whole(6), 3);
    }

    private static void scene() {
        EyeStage s = new EyeStage();
        Check.noIndex("no scene", s, () -> s.scene(0, 0));
        Check.noIndex("no scene and no what", s, () -> s.scene(0, 4));
        s.addScene(-20, 20, 50);
        s.addScene(-3, 4, 1);
        s.addScene(0, 0, 7);
        int[][] due = {{-20, 20, 50, 0}, {-3, 4, 1, 50}, {0, 0, 7, 51}};
        for (int n = 0; n < 3; n++) {
            for (int what = 0; what < 4; what++) {
                Check.same("scene(" + n + ", " + what + ")", s.scene(n, what), due[n][what]);
            }
        }
        Check.noIndex("scene 3", s, () -> s.scene(3, 0));
        Check.noIndex("scene -1", s, () -> s.scene(-1, 9));
        Check.badValue("what 4", s, () -> s.scene(2, 4));
        Check.badValue("what -1", s, () -> s.scene(2, -1));
    }

    private static void whole() {
        EyeStage s = new EyeStage();
        Check.badValue("what -1", s, () -> s.whole(-1));
        Check.badValue("what 16", s, () -> s.whole(16));
        s.begin(100, 50);
        s.addGroup(NONE, 0, 0, 0);
        s.addBox(0, -2, 0, 50, 4, 4);
        s.addScene(-10, 3, 9);
        s.set(1, 2);
        s.tick(3);
        int[] due = {100, 50, 2, 1, 1, 3, 0, -10, 3, 39, 3, 0, 20, 2, 4, 10};
        for (int what = 0; what < due.length; what++) {
            Check.same("whole(" + what + ")", s.whole(what), due[what]);
        }
        s.set(0, 0);
        Check.same("a gain of 0 is full", s.whole(9), 100);
        s.addScene(0, 0, 1);
        s.tick(50);
        s.set(0, 1);
        s.move(1, 0, 0, -1);
        Check.same("no room for what is behind", s.whole(9), 0);
        Check.same("no shift", s.node(1, 13), 0);
    }

    private static void window() {
        EyeStage s = new EyeStage();
        s.begin(40, 20);
        s.set(0, 100);
        s.addScene(-20, 20, 50);
        s.tick(30);
        s.addBox(NONE, 36, 0, 4, 6, 2);
        Check.same("right, cut in both images", s.whole(11), 4);
        s.addBox(NONE, 25, 5, 20, 14, 2);
        // Its columns in the right image are 15 to 28, in the left one 35 to 48.
        Check.same("right, cut by the frame of the left image", s.whole(11), 20);
        s.move(1, 25, 20, 20);
        Check.same("below the frame", s.whole(11), 4);
        s.move(1, 25, -1, 20);
        Check.same("one row in the frame", s.whole(11), 20);
        s.move(1, 25, -2, 20);
        Check.same("above the frame", s.whole(11), 4);
        s.move(1, 30, 5, 10);
        // In the right image it has the columns 25 to 38, and 36 is the first masked one.
        Check.same("a mask cuts what the frame does not", s.whole(11), 10);
        s.move(1, 30, 5, 0);
        Check.same("a shift of 0 is not greater than 0", s.whole(11), 4);
        s.removeNode(0);
        Check.same("without a positive shift", s.whole(11), 0);
        s.move(0, -3, 5, 1);
        Check.same("left", s.whole(10), 1);
        s.move(0, -14, 5, 1);
        Check.same("left, cut in the left image alone", s.whole(10), 1);
        s.move(0, -15, 5, 1);
        Check.same("outside on the left", s.whole(10), 0);
        s.move(0, -1, 5, 3);
        Check.same("left, cut in the right image", s.whole(10), 3);
        s.move(0, 100, 5, 3);
        Check.same("outside on the right", s.whole(11), 0);
    }

    private static void windowOfWholeFrame() {
        EyeStage s = new EyeStage();
        s.begin(20, 10);
        s.set(0, 100);
        s.addScene(-20, 20, 50);
        s.tick(20);
        s.addBox(NONE, -15, 0, 20, 10, 2);
        s.addBox(NONE, 18, 0, 0, 3, 2);
        // In the left image the first box has the columns -5 to 4, so that a becomes 20, which is W.
        Check.same("left", s.whole(10), 20);
        Check.same("right", s.whole(11), 0);
        Check.same("masked", s.shade(true, 19, 9), 0);
        Check.same("not masked", s.shade(false, 19, 9), 4);
        s.setTitle(5, 5, 1);
        Check.same("no title in a masked image", s.title(3), NONE);
        s.move(0, 25, 0, 20);
        // In the right image it has the columns 15 to 24.
        Check.same("right", s.whole(11), 20);
        Check.same("left", s.whole(10), 0);
        Check.same("masked", s.shade(false, 0, 9), 0);
        Check.same("no title there either", s.title(3), NONE);
    }
}
