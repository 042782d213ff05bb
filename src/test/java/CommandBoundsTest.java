import java.util.function.Consumer;

/** Promises 27 to 31 at their bounds: command texts, their faults and runs, undo, and the digest. */
public final class CommandBoundsTest {
    private static final int NONE = EyeStage.NONE;
    private static final String[] COMMANDS = {"frame 20 10", "group 1 2 3", "box 0 1 2 3 4 5", "back 0 1 2 3",
        "scene 1 2 3", "set 0 1", "title 1 2 3", "drop 0", "tick 1"};

    private CommandBoundsTest() {
    }

    public static void main(String[] args) {
        Check.promises(CommandBoundsTest.class);
    }

    private static EyeStage write(EyeStage s, String text) {
        s.clearCommands();
        for (char c : text.toCharArray()) {
            s.type(c);
        }
        return s;
    }

    private static EyeStage typed(int bytes) {
        EyeStage s = new EyeStage();
        for (int n = 0; n < bytes; n++) {
            s.type(' ');
        }
        return s;
    }

    /** A group 0 with the box 1 in it. */
    private static EyeStage furnished() {
        EyeStage s = new EyeStage();
        s.addGroup(NONE, 0, 0, 0);
        s.addBox(0, 10, 5, 3, 4, 4);
        return s;
    }

    /** The text is at fault with this byte: nothing is done, and no state is saved. */
    private static void faultIs(String text, int fault) {
        EyeStage s = write(furnished(), text);
        long before = s.digest();
        Check.same("run of '" + text + "'", s.runCommands(), -10 - fault);
        Check.same("digest after '" + text + "'", s.digest(), before);
    }

    private static void runIs(EyeStage s, String text, int commands) {
        Check.same("run of '" + text + "'", write(s, text).runCommands(), commands);
    }

    /** The text has no fault, and so many of its commands are carried out. */
    private static void runIs(String text, int commands) {
        runIs(furnished(), text, commands);
    }

    /** The first text's command is carried out; the second one's would throw, and changes nothing. */
    private static void within(String command, String beyond) {
        runIs(command, 1);
        EyeStage s = write(furnished(), beyond);
        EyeStage unchanged = write(furnished(), beyond);
        Check.same("run of '" + beyond + "'", s.runCommands(), 0);
        unchanged.clearTitle();
        Check.same("digest after '" + beyond + "'", s.digest(), unchanged.digest());
    }

    // ---- promise 27: type

    static void promise27ValueFrom0To127() {
        Check.valueBounds(0, 127, EyeStage::new, EyeStage::type);
        Check.valueBounds(0, 127, () -> typed(149), EyeStage::type);
    }

    static void promise27AtMost150Bytes() {
        EyeStage s = typed(149);
        Check.same("the 150th", s.type(';'), 150);
        Check.badState("the 151st", s, () -> s.type(' '));
        Check.same("it stands", s.runCommands(), -10 - 149);
        Check.same("length", s.clearCommands(), 150);
        Check.same("the first one again", s.type(' '), 1);
    }

    static void promise27TheFirstExceptionListedIsThrown() {
        EyeStage s = typed(150);
        Check.badValue("value 128, full", s, () -> s.type(128));
        Check.badValue("value -1, full", s, () -> s.type(-1));
        Check.badState("value 0, full", s, () -> s.type(0));
    }

    static void promise27ReturnsTheLength() {
        EyeStage s = new EyeStage();
        for (int length = 1; length <= 150; length++) {
            Check.same("length", s.type(length % 128), length);
        }
    }

    static void promise27NotUndoable() {
        EyeStage s = typed(150);
        Check.badState("undo", s, s::undo);
    }

    // ---- promise 28: clearCommands

    static void promise28ReturnsTheLengthThatItHad() {
        Check.same("empty", typed(0).clearCommands(), 0);
        Check.same("one byte", typed(1).clearCommands(), 1);
        EyeStage full = typed(150);
        Check.same("full", full.clearCommands(), 150);
        Check.same("empty then", full.clearCommands(), 0);
    }

    static void promise28AnEmptyTextDoesNothing() {
        EyeStage s = write(new EyeStage(), "tick 1;");
        s.clearCommands();
        Check.same("run", s.runCommands(), 0);
        Check.same("time", s.whole(5), 0);
        s.type('d');
        Check.same("old bytes are gone", s.runCommands(), -10);
    }

    static void promise28OldBytesDoNotCountBehindAShorterText() {
        String old = "tick 12;tick 3;";
        for (int length = 0; length <= old.length(); length++) {
            EyeStage s = write(new EyeStage(), old);
            EyeStage fresh = new EyeStage();
            Check.same("length", s.clearCommands(), 15);
            for (char c : old.substring(0, length).toCharArray()) {
                s.type(c);
                fresh.type(c);
            }
            Check.same("run of " + length + " bytes", s.runCommands(), fresh.runCommands());
        }
        Check.same("the text that ends too soon", write(write(new EyeStage(), "tick 1;"), "tick 1").runCommands(), -16);
    }

    static void promise28NotUndoable() {
        EyeStage s = typed(3);
        s.clearCommands();
        Check.badState("undo", s, s::undo);
    }

    // ---- promise 29: texts without and with a fault

    static void promise29AnEmptyTextHasNoFault() {
        runIs("", 0);
    }

    static void promise29SpacesAloneAreNoFault() {
        runIs(" ", 0);
        Check.same("150 spaces", typed(150).runCommands(), 0);
    }

    static void promise29EachWord() {
        for (String command : COMMANDS) {
            runIs(command + ";", 1);
        }
        runIs("box 0 1 2 3 4 5;back 2 1 2 3;drop 2;frame 20 10;group 1 2 3;scene 1 2 3;set 0 1;title 1 2 3;tick 1;", 9);
    }

    static void promise29NoOtherWord() {
        for (String command : COMMANDS) {
            String word = command.substring(0, command.indexOf(' '));
            String numbers = command.substring(command.indexOf(' '));
            faultIs(word.substring(0, word.length() - 1) + numbers + ";", 0);
            faultIs(word.substring(1) + numbers + ";", 0);
            faultIs(word + "s" + numbers + ";", 0);
            faultIs("s" + word + numbers + ";", 0);
        }
    }

    static void promise29LettersFromAToZ() {
        faultIs("Tick 1;", 0);
        faultIs("TICK 1;", 0);
        faultIs("tiCk 1;", 0);
        faultIs("`tick 1;", 0);
        faultIs("{tick 1;", 0);
        // The bytes next to a and z end the word, which is known here, and cannot stand themselves.
        faultIs("tick` 1;", 4);
        faultIs("tick{ 1;", 4);
        faultIs("ticka 1;", 0);
        faultIs("tickz 1;", 0);
        faultIs("atick 1;", 0);
        faultIs("ztick 1;", 0);
    }

    static void promise29AnUnknownWordIsAtFaultWithItsFirstByte() {
        faultIs("tock 1;", 0);
        faultIs("  tock 1;", 2);
        faultIs("tick 1;tock 1;", 7);
        faultIs("tick 1; tock 1;", 8);
        faultIs("tock;", 0);
        faultIs("tock1", 0);
        faultIs("tock#", 0);
        faultIs("ti ck 1;", 0);
    }

    static void promise29AWordIsCompleteAtTheEndOfTheText() {
        faultIs("tic", 0);
        faultIs("tick", 4);
        faultIs("ticks", 0);
        faultIs("t", 0);
        faultIs("tick 1;s", 7);
        faultIs("tick 1;set", 10);
        faultIs("tick 1;  sets", 9);
    }

    static void promise29ACommandBeginsWithAWord() {
        faultIs(";", 0);
        faultIs("1", 0);
        faultIs("   ;", 3);
        faultIs("1 tick;", 0);
        faultIs("tick 1;;", 7);
        faultIs("tick 1; 1;", 8);
        faultIs("\u0000", 0);
        faultIs("\u007f", 0);
    }

    static void promise29SpaceIsTheByte32() {
        runIs("tick 1;", 1);
        faultIs("tick\t1;", 4);
        faultIs("tick 1\n;", 6);
        faultIs("tick\u001f1;", 4);
        faultIs("tick!1;", 4);
        faultIs("\ttick 1;", 0);
        faultIs("tick 1;\r", 7);
    }

    static void promise29AtLeastOneSpaceInFrontOfANumber() {
        faultIs("tick1;", 4);
        faultIs("set 1;", 5);
        faultIs("tick;", 4);
        runIs("tick 1;", 1);
        runIs("tick  1;", 1);
        runIs("set   1     2;", 1);
    }

    static void promise29AsManyNumbersAsTheCommandHas() {
        for (String command : COMMANDS) {
            String less = command.substring(0, command.lastIndexOf(' '));
            faultIs(less + ";", less.length());
            faultIs(less + " ;", less.length() + 1);
            faultIs(less, less.length());
            faultIs(command + " 1;", command.length() + 1);
            runIs(command + ";", 1);
        }
    }

    static void promise29OneToThreeDigits() {
        faultIs("tick ;", 5);
        runIs("tick 9;", 1);
        runIs("tick 99;", 1);
        runIs("tick 199;", 1);
        faultIs("tick 1999;", 8);
        faultIs("tick 19999;", 8);
        faultIs("set 1 0001;", 9);
        faultIs("set 1999 1;", 7);
        faultIs("tick 1999", 8);
    }

    static void promise29ZerosInFrontAreAllowed() {
        EyeStage s = new EyeStage();
        runIs(s, "tick 01;tick 002;tick 010;", 3);
        Check.same("time", s.whole(5), 13);
        runIs("group 000 00 0;", 1);
        faultIs("tick 0001;", 8);
    }

    static void promise29DigitsFrom0To9() {
        EyeStage s = new EyeStage();
        runIs(s, "group 123 45 67;group 89 0 9;", 2);
        int[][] due = {{NONE, 123, 45, 67}, {NONE, 89, 0, 9}};
        for (int n = 0; n < 2; n++) {
            for (int what = 0; what < 4; what++) {
                Check.same("node(" + n + ", " + what + ")", s.node(n, what), due[n][what]);
            }
        }
        faultIs("tick /;", 5);
        faultIs("tick :;", 5);
        faultIs("tick 1/;", 6);
        faultIs("tick 1:;", 6);
        faultIs("tick -1;", 5);
        faultIs("tick +1;", 5);
        faultIs("tick a;", 5);
        faultIs("tick 1a;", 6);
    }

    static void promise29ASemicolonBehindEachCommand() {
        faultIs("tick 1", 6);
        faultIs("tick 1 ", 7);
        faultIs("tick 1 tick 1;", 7);
        faultIs("tick 1;tick 1", 13);
        faultIs("tick 1:tick 1;", 6);
        faultIs("tick 1,", 6);
        runIs("tick 1;tick 1;", 2);
    }

    static void promise29SpacesInFrontOfACommand() {
        runIs(" tick 1;", 1);
        runIs("   tick 1;   tick 1;", 2);
    }

    static void promise29SpacesInFrontOfASemicolon() {
        runIs("tick 1 ;", 1);
        runIs("tick 1   ;tick 1 ;", 2);
    }

    static void promise29SpacesAtTheEnd() {
        runIs("tick 1; ", 1);
        runIs("tick 1;   ", 1);
        faultIs("tick 1;  .", 9);
    }

    static void promise29TheLengthIfTheTextEndsTooSoon() {
        String text = "box 10 20 30 40 50 60 ";
        for (int length = 3; length <= text.length(); length++) {
            faultIs(text.substring(0, length), length);
        }
        runIs("box 0 20 30 40 50 60 ;", 1);
    }

    static void promise29FaultsOfAFullText() {
        String seven = "tick 1;".repeat(21);
        runIs(seven + "   ", 21);
        faultIs(seven + "  ;", 149);
        faultIs(seven + "  t", 149);
        faultIs(";" + seven, 0);
        faultIs(seven + "set", 150);
        faultIs(" ".repeat(144) + "tick 1", 150);
        runIs(" ".repeat(143) + "tick 1;", 1);
    }

    static void promise29ANumberOutOfItsRangeIsNoFault() {
        runIs("tick 999;", 0);
        runIs("tick 0;", 0);
        runIs("tick 1;frame 0 0;tick 1;", 1);
        runIs("tick 1;box 999 999 999 999 999 999;", 1);
    }

    static void promise29NothingIsDoneIfThereIsAFault() {
        faultIs("tick 1;tick 2;tick 3", 20);
        faultIs("tick 1;frame 20 10;drop x;", 24);
        EyeStage s = write(new EyeStage(), "tick 1;tick 2;t");
        Check.same("run", s.runCommands(), -24);
        Check.same("time", s.whole(5), 0);
        Check.badState("no state is saved", s, s::undo);
        write(s, "tick 1;tick 2;");
        Check.same("run without the fault", s.runCommands(), 2);
        Check.same("time then", s.whole(5), 3);
    }

    // ---- promise 29: runs

    static void promise29FrameAtItsBounds() {
        within("frame 20 10;", "frame 19 10;");
        within("frame 200 120;", "frame 201 120;");
        within("frame 20 120;", "frame 20 121;");
        within("frame 200 10;", "frame 200 9;");
    }

    static void promise29GroupAtItsBounds() {
        within("group 200 200 200;", "group 201 0 0;");
        within("group 0 0 0;", "group 0 201 0;");
        within("group 0 0 200;", "group 0 0 201;");
        EyeStage s = new EyeStage();
        runIs(s, "group 1 2 3;", 1);
        int[] due = {NONE, 1, 2, 3, 1, 2, 3, 0, 0};
        for (int what = 0; what < due.length; what++) {
            Check.same("node(0, " + what + ")", s.node(0, what), due[what]);
        }
    }

    static void promise29BoxAtItsBounds() {
        within("box 0 200 200 200 100 100;", "box 0 201 0 0 1 1;");
        within("box 0 0 0 0 1 1;", "box 0 0 201 0 1 1;");
        within("box 0 0 0 200 1 1;", "box 0 0 0 201 1 1;");
        within("box 0 0 0 0 100 1;", "box 0 0 0 0 101 1;");
        within("box 0 0 0 0 1 100;", "box 0 0 0 0 1 101;");
        within("box 0 0 0 0 1 1;", "box 0 0 0 0 0 1;");
        within("box 0 0 0 0 1 1;", "box 0 0 0 0 1 0;");
        within("box 0 0 0 0 1 1;", "box 1 0 0 0 1 1;");
        within("box 0 0 0 0 1 1;", "box 2 0 0 0 1 1;");
        runIs("group 0 0 0;box 2 0 0 0 1 1;", 2);
        EyeStage s = new EyeStage();
        runIs(s, "box 0 0 0 0 1 1;", 0);
        runIs(s, "group 0 0 0;box 0 11 12 13 14 15;", 2);
        int[] due = {0, 11, 12, 13, 11, 12, 13, 1, 0, 14, 15, 8};
        for (int what = 0; what < due.length; what++) {
            Check.same("node(1, " + what + ")", s.node(1, what), due[what]);
        }
    }

    static void promise29BackAtItsBounds() {
        within("back 1 200 200 200;", "back 1 201 0 0;");
        within("back 0 0 0 0;", "back 0 0 201 0;");
        within("back 1 0 0 200;", "back 1 0 0 201;");
        within("back 1 0 0 0;", "back 2 0 0 0;");
        EyeStage s = furnished();
        runIs(s, "back 1 7 8 200;", 1);
        int[] due = {0, 7, 8, -200};
        for (int what = 0; what < due.length; what++) {
            Check.same("node(1, " + what + ")", s.node(1, what), due[what]);
        }
    }

    static void promise29SceneAtItsBounds() {
        within("scene 20 20 50;", "scene 21 20 50;");
        within("scene 0 0 1;", "scene 0 21 1;");
        within("scene 0 0 50;", "scene 0 0 51;");
        within("scene 0 0 1;", "scene 0 0 0;");
        EyeStage s = new EyeStage();
        runIs(s, "scene 20 19 50;scene 0 0 1;", 2);
        int[][] due = {{-20, 19, 50, 0}, {0, 0, 1, 50}};
        for (int n = 0; n < 2; n++) {
            for (int what = 0; what < 4; what++) {
                Check.same("scene(" + n + ", " + what + ")", s.scene(n, what), due[n][what]);
            }
        }
        runIs(s, "scene 0 0 1;scene 0 0 1;scene 0 0 1;scene 0 0 1;scene 0 0 1;scene 0 0 1;scene 0 0 1;tick 1;", 6);
        Check.same("scenes", s.whole(4), 8);
        Check.same("time", s.whole(5), 0);
    }

    static void promise29SetAtItsBounds() {
        within("set 0 100;", "set 0 101;");
        within("set 1 1;", "set 1 0;");
        within("set 1 5;", "set 1 6;");
        within("set 2 15;", "set 2 16;");
        within("set 3 100;", "set 3 101;");
        within("set 3 0;", "set 4 0;");
        EyeStage s = new EyeStage();
        runIs(s, "set 0 100;set 1 5;set 2 15;set 3 99;", 4);
        int[] due = {100, 5, 15, 99};
        for (int what = 0; what < 4; what++) {
            Check.same("setting " + what, s.whole(12 + what), due[what]);
        }
    }

    static void promise29TitleAtItsBounds() {
        within("title 79 39 40;", "title 80 39 40;");
        within("title 0 0 1;", "title 0 40 1;");
        within("title 0 0 40;", "title 0 0 41;");
        within("title 0 0 1;", "title 0 0 0;");
        EyeStage s = new EyeStage();
        runIs(s, "title 79 38 40;", 1);
        int[] due = {79, 38, 40};
        for (int what = 0; what < 3; what++) {
            Check.same("title(" + what + ")", s.title(what), due[what]);
        }
        runIs("frame 20 10;title 19 9 1;title 20 9 1;", 2);
        runIs("frame 200 120;title 199 119 1;title 199 120 1;", 2);
    }

    static void promise29DropAtItsBounds() {
        within("drop 1;", "drop 2;");
        within("drop 0;", "drop 999;");
        runIs("drop 0;drop 0;", 1);
        runIs("drop 1;drop 0;drop 0;", 2);
    }

    static void promise29TickAtItsBounds() {
        within("tick 1;", "tick 0;");
        within("tick 200;", "tick 201;");
    }

    static void promise29StopsAtTheFirstThatWouldThrow() {
        EyeStage first = new EyeStage();
        runIs(first, "tick 0;tick 2;tick 3;", 0);
        Check.same("time, the first one", first.whole(5), 0);
        EyeStage middle = new EyeStage();
        runIs(middle, "tick 1;tick 0;tick 3;", 1);
        Check.same("time, the middle one", middle.whole(5), 1);
        EyeStage last = new EyeStage();
        runIs(last, "tick 1;tick 2;tick 0;", 2);
        Check.same("time, the last one", last.whole(5), 3);
        EyeStage none = new EyeStage();
        runIs(none, "tick 1;tick 2;tick 3;", 3);
        Check.same("time, none", none.whole(5), 6);
    }

    static void promise29StopsAtEachKindOfException() {
        EyeStage index = furnished();
        runIs(index, "tick 1;drop 2;tick 1;", 1);
        Check.same("time, no such node", index.whole(5), 1);
        EyeStage full = furnished();
        for (int n = 2; n < 19; n++) {
            full.addGroup(NONE, 0, 0, 0);
        }
        runIs(full, "group 0 0 0;group 0 0 0;tick 1;", 1);
        Check.same("nodes", full.whole(2), 20);
        Check.same("time, 20 nodes", full.whole(5), 0);
        EyeStage deep = new EyeStage();
        for (int n = 0; n < 6; n++) {
            deep.addGroup(n == 0 ? NONE : n - 1, 0, 0, 0);
        }
        runIs(deep, "box 4 0 0 0 1 1;box 5 0 0 0 1 1;", 1);
    }

    static void promise29TheTextStaysAsItIs() {
        EyeStage s = write(new EyeStage(), "tick 1;tick 0;");
        Check.same("run", s.runCommands(), 1);
        Check.same("run again", s.runCommands(), 1);
        Check.same("time", s.whole(5), 2);
        Check.same("length", s.clearCommands(), 14);
        write(s, "tick 1;.");
        s.runCommands();
        Check.same("length with a fault", s.clearCommands(), 8);
    }

    static void promise29SavesOneState() {
        EyeStage s = new EyeStage();
        long before = s.digest();
        runIs(s, "tick 1;tick 1;tick 1;tick 1;tick 1;tick 1;tick 1;", 7);
        s.clearCommands();
        Check.same("states left", s.undo(), 0);
        Check.same("all is back", s.digest(), before);
    }

    static void promise29SavesOneStateAlsoIfItDoesNothing() {
        for (String text : new String[] {"", "   ", "tick 0;"}) {
            EyeStage s = new EyeStage();
            runIs(s, text, 0);
            Check.same("states left after '" + text + "'", s.undo(), 0);
        }
        EyeStage s = new EyeStage();
        runIs(s, "tick 0", -16);
        Check.badState("with a fault it saves none", s, s::undo);
    }

    // ---- promise 30: undo

    static void promise30TheStackIsEmpty() {
        EyeStage s = new EyeStage();
        Check.badState("nothing to take back", s, s::undo);
        s.tick(1);
        Check.same("one state", s.undo(), 0);
        Check.badState("nothing again", s, s::undo);
    }

    static void promise30KeepsTheLatest4() {
        for (int calls = 1; calls <= 6; calls++) {
            EyeStage s = new EyeStage();
            for (int n = 0; n < calls; n++) {
                s.tick(1);
            }
            int kept = Math.min(calls, 4);
            for (int left = kept - 1; left >= 0; left--) {
                Check.same("states left after " + calls, s.undo(), left);
                Check.same("time after " + calls, s.whole(5), calls - kept + left);
            }
            Check.badState("no more after " + calls, s, s::undo);
        }
    }

    static void promise30DropsOlderOnesAgainAndAgain() {
        EyeStage s = new EyeStage();
        for (int n = 0; n < 9; n++) {
            s.tick(1);
        }
        s.undo();
        s.undo();
        for (int n = 0; n < 3; n++) {
            s.tick(10);
        }
        int[] due = {27, 17, 7, 6};
        for (int n = 0; n < 4; n++) {
            Check.same("states left", s.undo(), 3 - n);
            Check.same("time", s.whole(5), due[n]);
        }
        Check.badState("no more", s, s::undo);
    }

    static void promise30TheWholeStateButTheCommandText() {
        EyeStage s = new EyeStage();
        runIs(s, "group 1 2 3;box 0 4 5 6 7 8;scene 9 8 7;scene 6 5 4;title 3 4 5;set 0 30;tick 3;", 7);
        write(s, "a");
        long before = s.digest();
        runIs(s, "frame 20 10;group 1 1 1;group 1 1 1;group 9 9 9;box 2 1 1 1 1 1;scene 1 1 1;scene 2 2 2;"
                + "set 1 2;title 1 2 3;tick 9;", 10);
        write(s, "set 2 3;set 3 4;b");
        Check.same("states left", s.undo(), 1);
        Check.same("the text stays", s.clearCommands(), 17);
        s.type('a');
        Check.same("all is back", s.digest(), before);
        s.set(2, 3);
        s.set(3, 4);
        s.set(1, 5);
        s.undo();
        s.undo();
        Check.same("states left", s.undo(), 1);
        Check.same("settings too", s.digest(), before);
    }

    static void promise30WhatIsSeenComesBack() {
        EyeStage s = new EyeStage();
        s.setTitle(11, 6, 2);
        int[] seen = {s.whole(9), s.whole(10), s.shade(true, 12, 6), s.shade(true, 0, 6), s.title(4), s.ghosts(1)};
        s.addBox(NONE, -3, 6, 30, 40, 1);
        Check.same("percentage", s.whole(9), 99);
        Check.same("a", s.whole(10), 5);
        Check.same("masked", s.shade(true, 0, 6), 0);
        s.undo();
        int[] again = {s.whole(9), s.whole(10), s.shade(true, 12, 6), s.shade(true, 0, 6), s.title(4), s.ghosts(1)};
        for (int n = 0; n < seen.length; n++) {
            Check.same("value " + n, again[n], seen[n]);
        }
    }

    /** The call saves one state, the one from before it; it is put to a group 0 with the box 1, and a title. */
    private static void saves(String what, Consumer<EyeStage> call) {
        EyeStage s = furnished();
        s.setTitle(1, 2, 3);
        write(s, "tick 1;drop 0;frame 20 10;");
        long before = s.digest();
        call.accept(s);
        Check.same(what + ", states left", s.undo(), 3);
        Check.same(what + " taken back", s.digest(), before);
    }

    static void promise30ACallSavesAlsoIfItChangesNothing() {
        saves("move", s -> s.move(1, 10, 5, 3));
        saves("setShade", s -> s.setShade(1, 8));
        saves("set", s -> s.set(1, 1));
        saves("setTitle", s -> s.setTitle(1, 2, 3));
        EyeStage empty = new EyeStage();
        empty.begin(80, 40);
        Check.same("begin of the same", empty.undo(), 0);
        empty.clearTitle();
        Check.same("clearTitle of none", empty.undo(), 0);
        empty.runCommands();
        Check.same("runCommands of none", empty.undo(), 0);
    }

    static void promise30EachUndoableCallSavesOneState() {
        saves("begin", s -> s.begin(20, 10));
        saves("addGroup", s -> s.addGroup(0, 1, 1, 1));
        saves("addBox", s -> s.addBox(0, 1, 1, 1, 1, 1));
        saves("move", s -> s.move(0, 1, 1, 1));
        saves("setShade", s -> s.setShade(1, 1));
        saves("removeNode", s -> s.removeNode(0));
        saves("addScene", s -> s.addScene(-1, 1, 1));
        saves("set", s -> s.set(0, 1));
        saves("setTitle", s -> s.setTitle(1, 1, 1));
        saves("clearTitle", EyeStage::clearTitle);
        saves("tick", s -> s.tick(200));
        saves("runCommands", EyeStage::runCommands);
    }

    static void promise30OtherCallsSaveNone() {
        EyeStage s = furnished();
        s.addScene(-9, 9, 4);
        s.type('a');
        s.clearCommands();
        s.node(0, 0);
        s.painted(0);
        s.scene(0, 0);
        s.title(0);
        s.whole(0);
        s.shade(true, 0, 0);
        s.shown(true, 0, 0);
        s.ghost(0, 0);
        s.ghosts(1);
        s.meanGhost(0);
        s.percentageFor(0, 0);
        s.fittingGain();
        s.fullAfter(200);
        s.ghostsWithout(0, 1);
        s.digest();
        Check.same("states left", s.undo(), 2);
        Check.same("states left", s.undo(), 1);
        Check.same("states left", s.undo(), 0);
        Check.badState("no more", s, s::undo);
    }

    static void promise30ARefusedCallSavesNone() {
        EyeStage s = new EyeStage();
        Check.badValue("begin", s, () -> s.begin(19, 10));
        Check.badValue("addGroup", s, () -> s.addGroup(NONE, 201, 0, 0));
        Check.badValue("addBox", s, () -> s.addBox(NONE, 0, 0, 0, 0, 0));
        Check.noIndex("move", s, () -> s.move(0, 0, 0, 0));
        Check.noIndex("setShade", s, () -> s.setShade(0, 0));
        Check.noIndex("removeNode", s, () -> s.removeNode(0));
        Check.badValue("addScene", s, () -> s.addScene(1, 0, 1));
        Check.badValue("set", s, () -> s.set(4, 0));
        Check.badValue("setTitle", s, () -> s.setTitle(80, 0, 1));
        Check.badValue("tick", s, () -> s.tick(0));
        Check.badState("undo", s, s::undo);
    }

    static void promise30ItIsNotItselfUndoable() {
        EyeStage s = new EyeStage();
        s.tick(1);
        s.tick(2);
        Check.same("states left", s.undo(), 1);
        Check.same("states left", s.undo(), 0);
        Check.same("time", s.whole(5), 0);
    }

    // ---- promise 31: digest

    private static long hash(long h, long v) {
        return 31 * h + v;
    }

    /** The digest by the answers of the other calls. */
    private static long hashOfAnswers(EyeStage s, int states, int length) {
        long h = hash(hash(18767, states), length);
        for (int what = 0; what <= 15; what++) {
            h = hash(h, s.whole(what));
        }
        for (int n = 0; n < s.whole(2); n++) {
            for (int what = 0; what <= 15; what++) {
                h = hash(h, s.node(n, what));
            }
        }
        for (int n = 0; n < s.whole(4); n++) {
            for (int what = 0; what <= 3; what++) {
                h = hash(h, s.scene(n, what));
            }
        }
        for (int what = 0; what <= 6; what++) {
            h = hash(h, s.title(what));
        }
        for (int row = 0; row < s.whole(1); row++) {
            for (int column = 0; column < s.whole(0); column++) {
                h = hash(hash(h, s.shade(true, column, row)), s.shade(false, column, row));
            }
        }
        return h;
    }

    static void promise31OfANewObject() {
        EyeStage s = new EyeStage();
        Check.same("digest", s.digest(), hashOfAnswers(s, 0, 0));
    }

    static void promise31OfTheLeastFrame() {
        EyeStage s = new EyeStage();
        s.begin(20, 10);
        Check.same("digest", s.digest(), hashOfAnswers(s, 1, 0));
        s.undo();
        Check.same("digest of the first frame", s.digest(), hashOfAnswers(s, 0, 0));
    }

    static void promise31OfTheGreatestStage() {
        EyeStage s = new EyeStage();
        s.begin(200, 120);
        s.set(0, 100);
        for (int n = 0; n < 8; n++) {
            s.addScene(-20, 20, 50);
        }
        s.addGroup(NONE, 0, 0, 0);
        for (int n = 1; n < 20; n++) {
            s.addBox(0, 11 * n - 15, 7 * n - 10, 3 * (n % 7) - 2, 20, 10);
        }
        s.setTitle(60, 100, 40);
        s.tick(200);
        write(s, " ".repeat(150));
        Check.differs("a", s.whole(10), 0);
        Check.differs("b", s.whole(11), 0);
        Check.differs("row of the title", s.title(3), NONE);
        Check.same("digest", s.digest(), hashOfAnswers(s, 4, 150));
    }

    static void promise31CountsTheStatesAndTheLength() {
        EyeStage s = new EyeStage();
        long first = s.digest();
        s.clearTitle();
        Check.same("a state", s.digest(), hashOfAnswers(s, 1, 0));
        s.undo();
        s.type('a');
        Check.same("a byte", s.digest(), hashOfAnswers(s, 0, 1));
        s.clearCommands();
        Check.same("neither", s.digest(), first);
        for (int n = 0; n < 5; n++) {
            s.clearTitle();
        }
        Check.same("no more than 4 states", s.digest(), hashOfAnswers(s, 4, 0));
    }

    static void promise31ChangesNothing() {
        EyeStage s = furnished();
        Check.same("twice", s.digest(), s.digest());
        Check.same("states left", s.undo(), 1);
    }
}
