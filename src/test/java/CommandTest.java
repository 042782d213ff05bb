/** Promises 27 to 31: the command text, its faults and its run, undo, and the digest. */
public final class CommandTest {
    private static final int NONE = EyeStage.NONE;

    private CommandTest() {
    }

    public static void main(String[] args) {
        type();
        clearCommands();
        faults();
        runsEachWord();
        stopsAtTheFirstRefused();
        savesOneState();
        undo();
        digest();
        Check.end("CommandTest");
    }

    private static EyeStage write(EyeStage s, String text) {
        s.clearCommands();
        for (char c : text.toCharArray()) {
            s.type(c);
        }
        return s;
    }

    private static void type() {
        EyeStage s = new EyeStage();
        Check.badValue("value -1", s, () -> s.type(-1));
        Check.badValue("value 128", s, () -> s.type(128));
        for (int n = 1; n <= 150; n++) {
            Check.same("byte " + n, s.type(n < 128 ? n : 0), n);
        }
        Check.badState("byte 151", s, () -> s.type(32));
        Check.badValue("byte 151 that is wrong", s, () -> s.type(128));
        Check.badState("not undoable", s, s::undo);
    }

    private static void clearCommands() {
        EyeStage s = new EyeStage();
        Check.same("empty", s.clearCommands(), 0);
        write(s, "tick 1;");
        Check.same("seven", s.clearCommands(), 7);
        Check.same("empty again", s.clearCommands(), 0);
        Check.badState("not undoable", s, s::undo);
        Check.same("begins anew", s.type(65), 1);
    }

    private static void faultIs(String text, int fault) {
        EyeStage s = write(new EyeStage(), text);
        long before = s.digest();
        Check.same("run of '" + text + "'", s.runCommands(), -10 - fault);
        Check.same("digest after '" + text + "'", s.digest(), before);
        Check.badState("'" + text + "' saves nothing", s, s::undo);
    }

    private static void faults() {
        faultIs(";", 0);
        faultIs("  7", 2);
        faultIs("Tick 1;", 0);
        faultIs("\u0000", 0);
        faultIs("tick 1\t;", 6);
        faultIs("ti", 0);
        faultIs("  ti ", 2);
        faultIs("ticks 1;", 0);
        faultIs("tic#", 0);
        faultIs("tick 1; frames 3 4;", 8);
        faultIs("tick", 4);
        faultIs("tick ", 5);
        faultIs("tick;", 4);
        faultIs("tick1;", 4);
        faultIs("tick ;", 5);
        faultIs("tick x;", 5);
        faultIs("tick -1;", 5);
        faultIs("tick 1", 6);
        faultIs("tick 1  ", 8);
        faultIs("tick 1 2;", 7);
        faultIs("tick 0001;", 8);
        faultIs("tick 1x;", 6);
        faultIs("tick 1;;", 7);
        faultIs("set 1;", 5);
        faultIs("set 1 ;", 6);
        faultIs("set 1 2 3;", 8);
        faultIs("title 1 2 3 4;", 12);
        faultIs("box 0 1 2 3 4;", 13);
        faultIs("back 0 1 2;", 10);
        faultIs("drop 1;drop", 11);
        faultIs("drop 1;dropp", 7);
    }

    private static void runIs(EyeStage s, String text, int commands) {
        Check.same("run of '" + text + "'", write(s, text).runCommands(), commands);
    }

    private static void runsEachWord() {
        EyeStage s = new EyeStage();
        runIs(s, "", 0);
        runIs(s, "   ", 0);
        runIs(s, " frame  030 012 ;tick 7;", 2);
        Check.same("W", s.whole(0), 30);
        Check.same("H", s.whole(1), 12);
        Check.same("time", s.whole(5), 7);
        runIs(s, "group 1 2 3;box 0 4 5 6 7 8;back 1 9 10 11;group 000 00 0;   ", 4);
        int[] due = {0, 9, 10, -11};
        for (int what = 0; what < due.length; what++) {
            Check.same("node 1, " + what, s.node(1, what), due[what]);
        }
        Check.same("width", s.node(1, 9), 7);
        Check.same("height", s.node(1, 10), 8);
        Check.same("group without a parent", s.node(0, 0), NONE);
        runIs(s, "scene 20 19 18;set 1 5;title 3 4 5;drop 2;", 4);
        Check.same("least", s.scene(0, 0), -20);
        Check.same("greatest", s.scene(0, 1), 19);
        Check.same("ticks", s.scene(0, 2), 18);
        Check.same("rate", s.whole(13), 5);
        Check.same("title x", s.title(0), 3);
        Check.same("title y", s.title(1), 4);
        Check.same("title length", s.title(2), 5);
        Check.same("nodes", s.whole(2), 2);
        Check.same("the text stays", s.clearCommands(), 42);
    }

    private static void stopsAtTheFirstRefused() {
        String[] refused = {"frame 201 10;", "group 201 0 0;", "box 0 0 0 0 1 1;", "back 0 0 0 0;",
            "group 0 201 0;", "group 0 0 201;", "frame 80 121;", "scene 0 21 1;", "scene 0 0 51;", "title 0 40 1;",
            "scene 21 0 1;", "set 4 0;", "title 80 0 1;", "drop 0;", "tick 0;", "tick 999;"};
        for (String command : refused) {
            EyeStage s = new EyeStage();
            runIs(s, "tick 1;" + command + "tick 1;", 1);
            Check.same("time after " + command, s.whole(5), 1);
            Check.same("saved by " + command, s.undo(), 0);
            Check.same("time undone", s.whole(5), 0);
            runIs(s, command, 0);
            Check.same("saved by " + command + " alone", s.undo(), 0);
        }
        EyeStage s = new EyeStage();
        runIs(s, "group 0 0 0;box 0 0 0 0 1 0;", 1);
        runIs(s, "box 0 0 0 0 1 1;box 1 0 0 0 1 1;", 1);
        Check.same("nodes", s.whole(2), 2);
        runIs(s, "back 1 201 0 0;", 0);
        runIs(s, "back 1 0 201 0;", 0);
        runIs(s, "back 1 0 0 201;", 0);
        while (s.whole(2) < 20) {
            s.addGroup(NONE, 0, 0, 0);
        }
        runIs(s, "tick 2;group 0 0 0;tick 2;", 1);
        runIs(s, "frame 20 10;title 20 0 1;", 1);
        Check.same("the new frame counts", s.whole(0), 20);
    }

    private static void savesOneState() {
        EyeStage s = new EyeStage();
        s.tick(5);
        runIs(s, "tick 1;tick 1;tick 1;tick 1;tick 1;tick 1;", 6);
        Check.same("time", s.whole(5), 11);
        Check.same("one state", s.undo(), 1);
        Check.same("time undone", s.whole(5), 5);
        Check.same("again", s.runCommands(), 6);
        Check.same("time again", s.whole(5), 11);
    }

    private static void undo() {
        EyeStage s = new EyeStage();
        for (int n = 1; n <= 6; n++) {
            s.addBox(NONE, n, 0, 0, 1, 1);
        }
        s.type(65);
        for (int left = 3; left >= 0; left--) {
            Check.same("undo", s.undo(), left);
            Check.same("nodes", s.whole(2), left + 2);
        }
        Check.badState("nothing is left", s, s::undo);
        Check.same("the text stays", s.clearCommands(), 1);
        s.setShade(0, 8);
        Check.same("what changes nothing is saved too", s.undo(), 0);
        s.set(3, 1);
        s.set(3, 2);
        s.undo();
        s.set(3, 3);
        s.undo();
        Check.same("leak", s.whole(15), 1);
        s.undo();
        Check.same("leak at first", s.whole(15), 10);
    }

    private static long hash(long h, long... values) {
        for (long v : values) {
            h = 31 * h + v;
        }
        return h;
    }

    private static void digest() {
        EyeStage s = new EyeStage();
        long due = hash(18767, 0, 0, 80, 40, 0, 0, 0, 0, NONE, -5, 5, 100, 0, 0, 20, 1, 4, 10);
        due = hash(due, NONE, NONE, NONE, NONE, NONE, NONE, NONE);
        for (int cell = 0; cell < 2 * 80 * 40; cell++) {
            due = hash(due, 4);
        }
        Check.same("digest of a new object", s.digest(), due);
        s.begin(20, 10);
        s.addGroup(NONE, 1, 2, 3);
        s.addBox(0, 4, 5, 6, 7, 8);
        s.addScene(-7, 8, 9);
        s.setTitle(10, 3, 2);
        s.type(33);
        due = hash(18767, 4, 1, 20, 10, 2, 1, 1, 0, 0, -5, 5, 100, 0, 0, 20, 1, 4, 10);
        due = hash(due, NONE, 1, 2, 3, 1, 2, 3, 0, 1, NONE, NONE, NONE, NONE, NONE, NONE, NONE);
        due = hash(due, 0, 4, 5, 6, 5, 7, 9, 1, 0, 7, 8, 8, 1, 1, 6, 5);
        due = hash(due, -7, 8, 9, 0);
        due = hash(due, 10, 3, 2, 3, 0, 10, 10);
        for (int row = 0; row < 10; row++) {
            for (int c = 0; c < 20; c++) {
                int title = row == 3 && (c == 10 || c == 11) ? 15 : 4;
                due = hash(due, row >= 7 && c >= 6 && c < 13 ? 8 : title, row >= 7 && c >= 5 && c < 12 ? 8 : title);
            }
        }
        Check.same("digest", s.digest(), due);
        Check.same("digest again", s.digest(), due);
    }
}
