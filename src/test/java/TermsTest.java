import java.lang.management.ManagementFactory;
import java.util.function.Consumer;

/** Sentences of the document that hold for many promises at once. */
public final class TermsTest {
    private static final int NONE = EyeStage.NONE;
    private static final int CALLS = 512;

    private TermsTest() {
    }

    public static void main(String[] args) {
        noneIsReturnedOnlyIfNoExceptionApplies();
        refusedCallsLeaveTheSavedStates();
        refusedBytesLeaveTheText();
        aParentHasALowerNumber();
        aRunDropsOneOldState();
        aStateHoldsMoreThanIsSeen();
        severalObjectsSideBySide();
        theDearestCalls();
        littleRoom();
        Check.end("TermsTest");
    }

    /** A group 0 with the box 1 in it, a title that is not shown, and a scene. */
    private static EyeStage furnished() {
        EyeStage s = new EyeStage();
        s.addGroup(NONE, 3, 4, 5);
        s.addBox(0, 1, 2, 20, 6, 5);
        s.addScene(-9, 9, 4);
        s.setTitle(79, 20, 5);
        return s;
    }

    private static EyeStage write(EyeStage s, String text) {
        for (char c : text.toCharArray()) {
            s.type(c);
        }
        return s;
    }

    private static void noneIsReturnedOnlyIfNoExceptionApplies() {
        EyeStage s = furnished();
        Check.same("a value of a box, of a group", s.node(0, 15), NONE);
        Check.badValue("beyond those", s, () -> s.node(0, 16));
        Check.same("no such box", s.painted(1), NONE);
        Check.badValue("no such place", s, () -> s.painted(-1));
        Check.same("a title that is not shown", s.title(6), NONE);
        Check.badValue("no such value of it", s, () -> s.title(7));
        Check.same("no box in the cell", s.shown(true, 79, 39), NONE);
        Check.noIndex("no such cell", s, () -> s.shown(true, 80, 39));
        s.addBox(NONE, 0, 0, 200, 1, 1);
        Check.same("never full", s.fullAfter(200), NONE);
        Check.badValue("too far", s, () -> s.fullAfter(201));
        EyeStage empty = new EyeStage();
        Check.same("no title", empty.title(0), NONE);
        Check.badValue("no title, no such value", empty, () -> empty.title(-1));
        Check.same("no present scene", empty.whole(6), NONE);
        Check.badValue("no such value of the whole", empty, () -> empty.whole(16));
    }

    private static void refusedCallsLeaveTheSavedStates() {
        EyeStage s = furnished();
        s.begin(30, 12);
        for (int n = 0; n < 4; n++) {
            s.tick(n + 1);
        }
        Check.badValue("begin", s, () -> s.begin(30, 9));
        Check.noIndex("addGroup", s, () -> s.addGroup(0, 0, 0, 0));
        Check.noIndex("addBox", s, () -> s.addBox(0, 0, 0, 0, 1, 1));
        Check.noIndex("move", s, () -> s.move(0, 0, 0, 0));
        Check.noIndex("setShade", s, () -> s.setShade(0, 0));
        Check.noIndex("removeNode", s, () -> s.removeNode(0));
        Check.badValue("addScene", s, () -> s.addScene(0, 0, 0));
        Check.badValue("set", s, () -> s.set(1, 0));
        Check.badValue("setTitle", s, () -> s.setTitle(30, 0, 1));
        Check.badValue("tick", s, () -> s.tick(201));
        write(s, "tick 1;tick");
        Check.same("a text with a fault", s.runCommands(), -21);
        int[] times = {6, 3, 1, 0};
        for (int n = 0; n < 4; n++) {
            Check.same("states left", s.undo(), 3 - n);
            Check.same("time", s.whole(5), times[n]);
        }
        Check.badState("undo", s, s::undo);
        Check.same("nothing more was saved", s.whole(0), 30);
    }

    private static void refusedBytesLeaveTheText() {
        EyeStage s = write(new EyeStage(), "tick 1");
        Check.badValue("128", s, () -> s.type(128));
        Check.badValue("-1", s, () -> s.type(-1));
        s.type(';');
        Check.same("run", s.runCommands(), 1);
        write(s, "tick 2;".repeat(20) + "   ");
        Check.badState("the 151st", s, () -> s.type('x'));
        Check.same("run of the full text", s.runCommands(), 21);
        Check.same("time", s.whole(5), 42);
    }

    private static void aParentHasALowerNumber() {
        EyeStage s = new EyeStage();
        s.addBox(NONE, 0, 0, 0, 1, 1);
        s.addGroup(NONE, 0, 0, 0);
        s.addBox(NONE, 0, 0, 0, 1, 1);
        s.addGroup(1, 0, 0, 0);
        s.addBox(3, 0, 0, 0, 1, 1);
        s.addBox(1, 0, 0, 0, 1, 1);
        while (s.whole(2) > 0) {
            for (int n = 0; n < s.whole(2); n++) {
                int parent = s.node(n, 0);
                Check.same("parent " + parent + " of " + n, parent == NONE || parent >= 0 && parent < n ? 1 : 0, 1);
                Check.same("it is a group", parent == NONE ? NONE : s.node(parent, 9), NONE);
            }
            s.removeNode(0);
        }
    }

    private static void aRunDropsOneOldState() {
        EyeStage s = new EyeStage();
        for (int n = 0; n < 4; n++) {
            s.tick(1);
        }
        write(s, "tick 1;".repeat(21));
        Check.same("run", s.runCommands(), 21);
        int[] times = {4, 3, 2, 1};
        for (int n = 0; n < 4; n++) {
            Check.same("states left", s.undo(), 3 - n);
            Check.same("time", s.whole(5), times[n]);
        }
        Check.badState("the oldest one is dropped", s, s::undo);
    }

    /** What only later calls show: children, the next number, the scenes behind the present one. */
    private static void aStateHoldsMoreThanIsSeen() {
        EyeStage s = new EyeStage();
        s.addGroup(NONE, 1, 0, 0);
        s.addGroup(0, 2, 0, 0);
        s.addBox(1, 3, 0, 0, 1, 1);
        s.addScene(-7, 7, 1);
        s.addScene(-9, 9, 1);
        s.begin(20, 10);
        s.addBox(NONE, 0, 0, 0, 1, 1);
        s.undo();
        s.undo();
        s.tick(4);
        Check.same("the scene that comes last", s.whole(8), 9);
        s.move(0, 10, 0, 0);
        Check.same("a box in a group in a group", s.node(2, 4), 15);
        Check.same("the next number", s.addBox(1, 0, 0, 0, 1, 1), 3);
        Check.same("without the inner group", s.removeNode(1), 1);
    }

    private static void severalObjectsSideBySide() {
        EyeStage one = furnished();
        EyeStage two = furnished();
        one.setShade(1, 3);
        two.begin(20, 10);
        two.undo();
        one.undo();
        Check.same("the same again", one.digest(), two.digest());
        one.ghostsWithout(0, 1);
        one.fullAfter(200);
        Check.same("still the same", one.digest(), two.digest());
    }

    /** The greatest frame with 19 boxes that overlap, and a title that finds no room. */
    private static EyeStage greatest() {
        EyeStage s = new EyeStage();
        s.begin(200, 120);
        s.set(0, 100);
        for (int n = 0; n < 8; n++) {
            s.addScene(-20, 20, 50);
        }
        s.addGroup(NONE, 0, 0, 0);
        for (int n = 1; n < 20; n++) {
            s.addBox(0, 10 * n - 20, n, 21 - n, 100, 100);
        }
        s.setTitle(170, 119, 40);
        s.tick(200);
        write(s, "tick 200;".repeat(16));
        return s;
    }

    private static void theDearestCalls() {
        EyeStage s = greatest();
        long digest = s.digest();
        int ghosts = s.ghosts(1);
        int without = s.ghostsWithout(1, 1);
        for (int call = 0; call < 60; call++) {
            Check.same("digest", s.digest(), digest);
            Check.same("ghosts", s.ghosts(1), ghosts);
            Check.same("ghostsWithout", s.ghostsWithout(1, 1), without);
        }
        int time = s.whole(5);
        for (int call = 1; call <= 60; call++) {
            Check.same("run", s.runCommands(), 16);
            Check.same("time", s.whole(5), time + 3200 * call);
        }
        Check.same("the last scene goes on for ever", s.whole(6), 7);
    }

    /** A run's objects share one room of 7.3 million fields and elements: each EyeStage may take but little of it. */
    private static void littleRoom() {
        // The state from before makes the first rows of the saved ones.
        room("a new object that is used", 60_000, 1, () -> greatest());
        EyeStage s = greatest();
        for (int n = 0; n < 5; n++) {
            s.tick(1);
        }
        room("each undoable call and an undo", 20_000, CALLS / 2, () -> {
            s.move(1, 1, 1, 1);
            s.undo();
        });
        each(s, "digest", EyeStage::digest);
        each(s, "title", x -> x.title(3));
        each(s, "node", x -> x.node(1, 14));
        each(s, "painted", x -> x.painted(3));
        each(s, "shade", x -> x.shade(true, 50, 50));
        each(s, "shown", x -> x.shown(true, 50, 50));
        each(s, "ghosts", x -> x.ghosts(1));
        each(s, "meanGhost", x -> x.meanGhost(7));
        each(s, "ghostsWithout", x -> x.ghostsWithout(1, 1));
        each(s, "fullAfter", x -> x.fullAfter(200));
        each(s, "fittingGain", EyeStage::fittingGain);
        each(s, "percentageFor", x -> x.percentageFor(-3, 3));
        each(s, "runCommands", EyeStage::runCommands);
        each(s, "removeNode", x -> {
            x.removeNode(0);
            x.undo();
        });
    }

    private static void each(EyeStage s, String what, Consumer<EyeStage> call) {
        room(what, 20_000, CALLS, () -> call.accept(s));
    }

    private static void room(String what, long most, int times, Runnable call) {
        com.sun.management.ThreadMXBean threads = (com.sun.management.ThreadMXBean) ManagementFactory.getThreadMXBean();
        call.run();
        long before = threads.getCurrentThreadAllocatedBytes();
        for (int n = 0; n < times; n++) {
            call.run();
        }
        long taken = threads.getCurrentThreadAllocatedBytes() - before;
        if (taken > most) {
            Check.tell(what + ", " + times + " times, took " + taken + " bytes of room, no more than " + most + " are due");
        }
    }
}
