/**
 * Boxes in a tree of groups, drawn for two eyes: shifts within a budget that follows the scenes,
 * a window whose edges come forward, a title that stays ahead, ghosts, and texts of commands.
 */
public final class EyeStage {
    public static final int NONE = -1000;

    private static final int MAX_NODES = 20;
    private static final int MAX_AROUND = 5;
    private static final int MAX_SCENES = 8;
    private static final int MAX_STATES = 4;
    private static final int MAX_TEXT = 150;
    private static final int MAX_WIDTH = 200;
    private static final int MAX_SHIFT = 20;
    private static final int MAX_PLACE = 200;
    private static final int MAX_PASSING = 200;
    private static final int NODE_VALUES = 16;
    private static final int SCENE_VALUES = 4;
    private static final int TITLE_VALUES = 7;
    private static final int WHOLE_VALUES = 16;
    private static final int TITLE_SHADE = 15;
    private static final int FIRST_SHADE = 8;
    private static final int FIRST_LEAST = -5;
    private static final int FIRST_GREATEST = 5;

    private static final int GAIN = 0;
    private static final int RATE = 1;
    private static final int BACKGROUND = 2;
    private static final int LEAK = 3;
    private static final int SETTINGS = 4;
    private static final int[] LEAST_SETTING = {0, 1, 0, 0};
    private static final int[] GREATEST_SETTING = {100, 5, 15, 100};

    // What stands against a call; told as a number, so that a command can stop where a call throws.
    private static final int FINE = 0;
    private static final int NO_SUCH = 1;
    private static final int BAD_VALUE = 2;
    private static final int BAD_STATE = 3;

    private static final Word[] WORDS = Word.values();

    private final View view = new View();
    private final Stage stage = view.stage;
    // What-if questions are put to a copy, made once so that no question makes objects.
    private final View otherView = new View();
    private final Stage otherStage = otherView.stage;
    private final History history = new History();
    private final Script script = new Script();
    private boolean stale = true;

    public EyeStage() {
    }

    // ---- the tree

    public int begin(int width, int height) throws IllegalArgumentException {
        refuse(stage.faultOfFrame(width, height));
        keepState();
        return stage.reframe(width, height);
    }

    public int addGroup(int parent, int dx, int dy, int dz)
            throws IndexOutOfBoundsException, IllegalArgumentException, IllegalStateException {
        refuse(stage.tree.faultOfGroup(parent, dx, dy, dz));
        keepState();
        return stage.tree.appendGroup(parent, dx, dy, dz);
    }

    public int addBox(int parent, int dx, int dy, int dz, int width, int height)
            throws IndexOutOfBoundsException, IllegalArgumentException, IllegalStateException {
        refuse(stage.tree.faultOfBox(parent, dx, dy, dz, width, height));
        keepState();
        return stage.tree.appendBox(parent, dx, dy, dz, width, height);
    }

    public int move(int node, int dx, int dy, int dz)
            throws IndexOutOfBoundsException, IllegalArgumentException {
        refuse(stage.tree.faultOfPlacing(node, dx, dy, dz));
        keepState();
        return stage.tree.placeAt(node, dx, dy, dz);
    }

    public int setShade(int node, int shade) throws IndexOutOfBoundsException, IllegalArgumentException {
        refuse(stage.tree.faultOfColour(node, shade));
        keepState();
        return stage.tree.colour(node, shade);
    }

    public int removeNode(int node) throws IndexOutOfBoundsException {
        refuse(stage.tree.faultOfNumber(node));
        keepState();
        return stage.tree.drop(node);
    }

    // ---- scenes, settings, title

    public int addScene(int least, int greatest, int ticks)
            throws IllegalArgumentException, IllegalStateException {
        refuse(stage.schedule.faultOfScene(least, greatest, ticks));
        keepState();
        return stage.schedule.append(least, greatest, ticks);
    }

    public int set(int what, int value) throws IllegalArgumentException {
        refuse(stage.faultOfSetting(what, value));
        keepState();
        return stage.change(what, value);
    }

    public int setTitle(int x, int y, int length) throws IllegalArgumentException {
        refuse(stage.faultOfTitle(x, y, length));
        keepState();
        return stage.entitle(x, y, length);
    }

    public int clearTitle() {
        keepState();
        return stage.entitle(0, 0, 0);
    }

    public int tick(int ticks) throws IllegalArgumentException {
        refuse(stage.faultOfTicks(ticks));
        keepState();
        return stage.pass(ticks);
    }

    // ---- values

    public int node(int node, int what) throws IndexOutOfBoundsException, IllegalArgumentException {
        refuse(stage.tree.faultOfNumber(node));
        refuse(faultOfRange(what, 0, NODE_VALUES - 1));
        return freshView().placing.valueOf(node, what);
    }

    public int painted(int place) throws IllegalArgumentException {
        refuse(place < 0 ? BAD_VALUE : FINE);
        return freshView().placing.boxAt(place);
    }

    public int scene(int scene, int what) throws IndexOutOfBoundsException, IllegalArgumentException {
        refuse(stage.schedule.has(scene) ? FINE : NO_SUCH);
        refuse(faultOfRange(what, 0, SCENE_VALUES - 1));
        return stage.schedule.valueOf(scene, what);
    }

    public int title(int what) throws IllegalArgumentException {
        refuse(faultOfRange(what, 0, TITLE_VALUES - 1));
        return freshView().titleValue(what);
    }

    public int whole(int what) throws IllegalArgumentException {
        refuse(faultOfRange(what, 0, WHOLE_VALUES - 1));
        return freshView().wholeValue(what);
    }

    // ---- images

    public int shade(boolean left, int column, int row) throws IndexOutOfBoundsException {
        refuse(stage.faultOfCell(column, row));
        return freshView().shadeAt(left, column, row);
    }

    public int shown(boolean left, int column, int row) throws IndexOutOfBoundsException {
        refuse(stage.faultOfCell(column, row));
        return freshView().placing.frontBox(left, column, row);
    }

    public int ghost(int column, int row) throws IndexOutOfBoundsException {
        refuse(stage.faultOfCell(column, row));
        return freshView().ghostAt(column, row);
    }

    public int ghosts(int least) throws IllegalArgumentException {
        refuse(faultOfRange(least, 1, 15));
        return freshView().countGhosts(least);
    }

    public double meanGhost(int row) throws IndexOutOfBoundsException {
        refuse(stage.faultOfCell(0, row));
        return (double) freshView().sumOfGhosts(row) / (double) stage.width;
    }

    // ---- what if, which changes nothing

    public int percentageFor(int least, int greatest) throws IllegalArgumentException {
        refuse(faultOfBudget(least, greatest));
        return freshView().placing.percentageWithin(least, greatest);
    }

    public int fittingGain() {
        return freshView().placing.gainThatFits();
    }

    public int fullAfter(int most) throws IllegalArgumentException {
        refuse(faultOfRange(most, 0, MAX_PASSING));
        Placing placing = freshView().placing;
        Schedule ahead = otherStage.schedule;
        ahead.copyFrom(stage.schedule);
        int gain = stage.settings[GAIN];
        for (int passed = 0; passed <= most; passed++) {
            if (placing.fits(gain, 100, ahead.low, ahead.high)) {
                return passed;
            }
            ahead.passTick(stage.settings[RATE]);
        }
        return NONE;
    }

    public int ghostsWithout(int node, int least)
            throws IndexOutOfBoundsException, IllegalArgumentException {
        refuse(stage.tree.faultOfNumber(node));
        refuse(faultOfRange(least, 1, 15));
        otherStage.copyFrom(stage);
        otherStage.tree.drop(node);
        otherView.measure();
        return otherView.countGhosts(least);
    }

    // ---- command text, undo and checksum

    public int type(int value) throws IllegalArgumentException, IllegalStateException {
        refuse(faultOfRange(value, 0, 127));
        refuse(script.length >= MAX_TEXT ? BAD_STATE : FINE);
        return script.append(value);
    }

    public int clearCommands() {
        int before = script.length;
        script.length = 0;
        return before;
    }

    public int runCommands() {
        int fault = script.findFault();
        if (fault >= 0) {
            return -10 - fault;
        }
        keepState();
        return script.runOn(stage);
    }

    public int undo() throws IllegalStateException {
        refuse(history.count == 0 ? BAD_STATE : FINE);
        history.restore(stage);
        stale = true;
        return history.count;
    }

    public long digest() {
        View now = freshView();
        long hash = 18767;
        hash = 31 * hash + history.count;
        hash = 31 * hash + script.length;
        for (int what = 0; what < WHOLE_VALUES; what++) {
            hash = 31 * hash + now.wholeValue(what);
        }
        for (int n = 0; n < stage.tree.count; n++) {
            for (int what = 0; what < NODE_VALUES; what++) {
                hash = 31 * hash + now.placing.valueOf(n, what);
            }
        }
        for (int n = 0; n < stage.schedule.count; n++) {
            for (int what = 0; what < SCENE_VALUES; what++) {
                hash = 31 * hash + stage.schedule.valueOf(n, what);
            }
        }
        for (int what = 0; what < TITLE_VALUES; what++) {
            hash = 31 * hash + now.titleValue(what);
        }
        return now.hashImages(hash);
    }

    // Every change of the stage follows this call, so the view is measured anew after it.
    private void keepState() {
        history.save(stage);
        stale = true;
    }

    private View freshView() {
        if (stale) {
            view.measure();
            stale = false;
        }
        return view;
    }

    private static void refuse(int fault) {
        if (fault == NO_SUCH) {
            throw new IndexOutOfBoundsException("there is no such thing");
        }
        if (fault == BAD_VALUE) {
            throw new IllegalArgumentException("an argument is out of range");
        }
        if (fault == BAD_STATE) {
            throw new IllegalStateException("the state does not allow it");
        }
    }

    private static boolean within(int value, int least, int greatest) {
        return value >= least && value <= greatest;
    }

    private static int faultOfRange(int value, int least, int greatest) {
        return within(value, least, greatest) ? FINE : BAD_VALUE;
    }

    private static int faultOfBudget(int least, int greatest) {
        return within(least, -MAX_SHIFT, 0) && within(greatest, 0, MAX_SHIFT) ? FINE : BAD_VALUE;
    }

    private static int columnOf(boolean left, int place, int shift) {
        return left ? place + Math.floorDiv(shift + 1, 2) : place - Math.floorDiv(shift, 2);
    }

    private static void copyRow(int[] from, int[] to) {
        System.arraycopy(from, 0, to, 0, Math.min(from.length, to.length));
    }

    /** Groups and boxes; a parent's number is lower than its children's, so one pass forward reaches all. */
    private static final class Tree {
        int count;
        final int[] parent = new int[MAX_NODES];
        final int[] around = new int[MAX_NODES];
        final int[] dx = new int[MAX_NODES];
        final int[] dy = new int[MAX_NODES];
        final int[] dz = new int[MAX_NODES];
        final int[] width = new int[MAX_NODES];
        final int[] height = new int[MAX_NODES];
        final int[] shades = new int[MAX_NODES];
        private final int[] renumbered = new int[MAX_NODES];

        boolean has(int n) {
            return n >= 0 && n < count && n < MAX_NODES;
        }

        // A group is held as a node without a width.
        boolean isBox(int n) {
            return n >= 0 && n < count && n < MAX_NODES && width[n] > 0;
        }

        int boxes() {
            int boxes = 0;
            for (int n = 0; n < count; n++) {
                boxes += isBox(n) ? 1 : 0;
            }
            return boxes;
        }

        int children(int of) {
            int children = 0;
            for (int n = 0; n < count && n < MAX_NODES; n++) {
                children += parent[n] == of ? 1 : 0;
            }
            return children;
        }

        int faultOfNumber(int n) {
            return has(n) ? FINE : NO_SUCH;
        }

        private static boolean isCoordinate(int value) {
            return value >= -MAX_PLACE && value <= MAX_PLACE;
        }

        private static boolean isPlace(int dx, int dy, int dz) {
            return isCoordinate(dx) && isCoordinate(dy) && isCoordinate(dz);
        }

        int faultOfGroup(int parent, int dx, int dy, int dz) {
            if (parent != NONE && !has(parent)) {
                return NO_SUCH;
            }
            if (isBox(parent) || !isPlace(dx, dy, dz)) {
                return BAD_VALUE;
            }
            return count >= MAX_NODES || aroundChildOf(parent) > MAX_AROUND ? BAD_STATE : FINE;
        }

        int faultOfBox(int parent, int dx, int dy, int dz, int width, int height) {
            int fault = faultOfGroup(parent, dx, dy, dz);
            boolean sized = within(width, 1, 100) && within(height, 1, 100);
            return fault != NO_SUCH && !sized ? BAD_VALUE : fault;
        }

        int faultOfPlacing(int n, int dx, int dy, int dz) {
            if (!has(n)) {
                return NO_SUCH;
            }
            return isPlace(dx, dy, dz) ? FINE : BAD_VALUE;
        }

        int faultOfColour(int n, int shade) {
            if (!has(n)) {
                return NO_SUCH;
            }
            return isBox(n) && within(shade, 0, 15) ? FINE : BAD_VALUE;
        }

        private int aroundChildOf(int parent) {
            return has(parent) ? around[parent] + 1 : 0;
        }

        int appendGroup(int parent, int dx, int dy, int dz) {
            return appendBox(parent, dx, dy, dz, 0, 0);
        }

        int appendBox(int parent, int dx, int dy, int dz, int width, int height) {
            int n = count;
            if (n < 0 || n >= MAX_NODES) {
                return NONE;
            }
            this.around[n] = aroundChildOf(parent);
            this.parent[n] = parent;
            this.dx[n] = dx;
            this.dy[n] = dy;
            this.dz[n] = dz;
            this.width[n] = width;
            this.height[n] = height;
            this.shades[n] = FIRST_SHADE;
            count = n + 1;
            return n;
        }

        int placeAt(int n, int dx, int dy, int dz) {
            if (!has(n)) {
                return NONE;
            }
            int before = this.dz[n];
            this.dx[n] = dx;
            this.dy[n] = dy;
            this.dz[n] = dz;
            return before;
        }

        int colour(int n, int shade) {
            if (!has(n)) {
                return NONE;
            }
            int before = shades[n];
            shades[n] = shade;
            return before;
        }

        int drop(int dropped) {
            int kept = 0;
            for (int n = 0; n < count && n < MAX_NODES; n++) {
                int p = parent[n];
                boolean inGroup = p >= 0 && p < n;
                if (n == dropped || inGroup && renumbered[p] == NONE) {
                    renumbered[n] = NONE;
                } else {
                    renumbered[n] = kept;
                    shiftDown(n, kept);
                    parent[kept] = inGroup ? renumbered[p] : NONE;
                    kept++;
                }
            }
            count = kept;
            return kept;
        }

        private void shiftDown(int from, int to) {
            if (has(from) && has(to)) {
                around[to] = around[from];
                dx[to] = dx[from];
                dy[to] = dy[from];
                dz[to] = dz[from];
                width[to] = width[from];
                height[to] = height[from];
                shades[to] = shades[from];
            }
        }

        void copyFrom(Tree other) {
            count = other.count;
            copyRow(other.parent, parent);
            copyRow(other.around, around);
            copyRow(other.dx, dx);
            copyRow(other.dy, dy);
            copyRow(other.dz, dz);
            copyRow(other.width, width);
            copyRow(other.height, height);
            copyRow(other.shades, shades);
        }
    }

    /** The scenes, the time, and the present budget that follows the scenes. */
    private static final class Schedule {
        int count;
        int time;
        int low = FIRST_LEAST;
        int high = FIRST_GREATEST;
        private final int[] least = new int[MAX_SCENES];
        private final int[] greatest = new int[MAX_SCENES];
        private final int[] ticks = new int[MAX_SCENES];

        boolean has(int n) {
            return n >= 0 && n < count && n < MAX_SCENES;
        }

        int faultOfScene(int least, int greatest, int ticks) {
            int fault = faultOfBudget(least, greatest);
            if (fault == FINE) {
                fault = faultOfRange(ticks, 1, 50);
            }
            return fault == FINE && count >= MAX_SCENES ? BAD_STATE : fault;
        }

        int append(int least, int greatest, int ticks) {
            int n = count;
            if (n < 0 || n >= MAX_SCENES) {
                return NONE;
            }
            this.least[n] = least;
            this.greatest[n] = greatest;
            this.ticks[n] = ticks;
            count = n + 1;
            return n;
        }

        void clear() {
            count = 0;
            time = 0;
            low = FIRST_LEAST;
            high = FIRST_GREATEST;
        }

        int beginOf(int scene) {
            int begin = 0;
            for (int n = 0; n < scene && n < count && n < MAX_SCENES; n++) {
                begin += ticks[n];
            }
            return begin;
        }

        // The last scene has no end, so it needs no look at its ticks.
        int present() {
            if (count == 0) {
                return NONE;
            }
            int end = 0;
            for (int n = 0; n < count - 1 && n < MAX_SCENES; n++) {
                end += ticks[n];
                if (time < end) {
                    return n;
                }
            }
            return count - 1;
        }

        void passTick(int rate) {
            time++;
            int n = present();
            if (has(n)) {
                low = towards(low, least[n], rate);
                high = towards(high, greatest[n], rate);
            }
        }

        private static int towards(int from, int to, int step) {
            return from < to ? Math.min(from + step, to) : Math.max(from - step, to);
        }

        int valueOf(int n, int what) {
            if (!has(n)) {
                return NONE;
            }
            switch (what) {
                case 0:
                    return least[n];
                case 1:
                    return greatest[n];
                case 2:
                    return ticks[n];
                default:
                    return beginOf(n);
            }
        }

        void copyFrom(Schedule other) {
            count = other.count;
            time = other.time;
            low = other.low;
            high = other.high;
            copyRow(other.least, least);
            copyRow(other.greatest, greatest);
            copyRow(other.ticks, ticks);
        }
    }

    /** All that an undo brings back. */
    private static final class Stage {
        final Tree tree = new Tree();
        final Schedule schedule = new Schedule();
        final int[] settings = new int[SETTINGS];
        int width = 80;
        int height = 40;
        int titleX;
        int titleY;
        // Without a title the length is 0.
        int titleLength;

        Stage() {
            settings[GAIN] = 20;
            settings[RATE] = 1;
            settings[BACKGROUND] = 4;
            settings[LEAK] = 10;
        }

        int faultOfFrame(int width, int height) {
            return within(width, 20, MAX_WIDTH) && within(height, 10, 120) ? FINE : BAD_VALUE;
        }

        int reframe(int width, int height) {
            int before = schedule.time;
            this.width = width;
            this.height = height;
            tree.count = 0;
            schedule.clear();
            entitle(0, 0, 0);
            return before;
        }

        int faultOfCell(int column, int row) {
            return within(column, 0, width - 1) && within(row, 0, height - 1) ? FINE : NO_SUCH;
        }

        int faultOfSetting(int what, int value) {
            if (what < 0 || what >= SETTINGS) {
                return BAD_VALUE;
            }
            return faultOfRange(value, LEAST_SETTING[what], GREATEST_SETTING[what]);
        }

        int change(int what, int value) {
            if (what < 0 || what >= SETTINGS) {
                return NONE;
            }
            int before = settings[what];
            settings[what] = value;
            return before;
        }

        int faultOfTitle(int x, int y, int length) {
            boolean inFrame = within(x, 0, width - 1) && within(y, 0, height - 1);
            return inFrame && within(length, 1, 40) ? FINE : BAD_VALUE;
        }

        int entitle(int x, int y, int length) {
            int before = titleLength;
            titleX = x;
            titleY = y;
            titleLength = length;
            return before;
        }

        int faultOfTicks(int ticks) {
            return faultOfRange(ticks, 1, MAX_PASSING);
        }

        int pass(int ticks) {
            for (int passed = 0; passed < ticks; passed++) {
                schedule.passTick(settings[RATE]);
            }
            return schedule.time;
        }

        void copyFrom(Stage other) {
            tree.copyFrom(other.tree);
            schedule.copyFrom(other.schedule);
            copyRow(other.settings, settings);
            width = other.width;
            height = other.height;
            titleX = other.titleX;
            titleY = other.titleY;
            titleLength = other.titleLength;
        }
    }

    /** A stage with the places of its nodes, and the shifts, columns and order of its boxes. */
    private static final class Placing {
        final Stage stage = new Stage();
        private final Tree tree = stage.tree;
        private final int[] x = new int[MAX_NODES];
        private final int[] y = new int[MAX_NODES];
        private final int[] z = new int[MAX_NODES];
        final int[] shift = new int[MAX_NODES];
        final int[] leftColumn = new int[MAX_NODES];
        final int[] rightColumn = new int[MAX_NODES];
        private final int[] order = new int[MAX_NODES];
        int boxes;
        int percentage;

        void measure() {
            placeNodes();
            percentage = percentageWithin(stage.schedule.low, stage.schedule.high);
            boxes = 0;
            for (int n = 0; n < tree.count && n < MAX_NODES; n++) {
                if (tree.isBox(n)) {
                    shift[n] = Math.floorDiv(rawShift(stage.settings[GAIN], z[n]) * percentage, 100);
                    leftColumn[n] = columnOf(true, x[n], shift[n]);
                    rightColumn[n] = columnOf(false, x[n], shift[n]);
                    putInOrder(n);
                }
            }
        }

        private void placeNodes() {
            for (int n = 0; n < tree.count && n < MAX_NODES; n++) {
                int p = tree.parent[n];
                boolean inGroup = p >= 0 && p < n;
                x[n] = tree.dx[n] + (inGroup ? x[p] : 0);
                y[n] = tree.dy[n] + (inGroup ? y[p] : 0);
                z[n] = tree.dz[n] + (inGroup ? z[p] : 0);
            }
        }

        // Boxes come by ascending numbers, so a later one goes behind those of its own shift.
        private void putInOrder(int n) {
            if (boxes < 0 || boxes >= MAX_NODES) {
                return;
            }
            int place = boxes;
            while (place > 0 && isNearer(order[place - 1], n)) {
                order[place] = order[place - 1];
                place--;
            }
            order[place] = n;
            boxes++;
        }

        private boolean isNearer(int n, int other) {
            return tree.has(n) && tree.has(other) && shift[n] > shift[other];
        }

        private static int rawShift(int gain, int depth) {
            return Math.floorDiv(gain * depth, 100);
        }

        boolean fits(int gain, int percent, int low, int high) {
            for (int n = 0; n < tree.count && n < MAX_NODES; n++) {
                if (tree.isBox(n)
                        && !within(Math.floorDiv(rawShift(gain, z[n]) * percent, 100), low, high)) {
                    return false;
                }
            }
            return true;
        }

        int percentageWithin(int low, int high) {
            for (int percent = 100; percent > 0; percent--) {
                if (fits(stage.settings[GAIN], percent, low, high)) {
                    return percent;
                }
            }
            return 0;
        }

        int gainThatFits() {
            for (int gain = 100; gain > 0; gain--) {
                if (fits(gain, 100, stage.schedule.low, stage.schedule.high)) {
                    return gain;
                }
            }
            return 0;
        }

        int boxAt(int place) {
            return place >= 0 && place < boxes && place < MAX_NODES ? order[place] : NONE;
        }

        int column(boolean left, int n) {
            if (!tree.has(n)) {
                return NONE;
            }
            return left ? leftColumn[n] : rightColumn[n];
        }

        boolean inRow(int n, int row) {
            return tree.isBox(n) && y[n] <= row && row < y[n] + tree.height[n];
        }

        boolean inFrame(int n) {
            return tree.isBox(n) && y[n] < stage.height && y[n] + tree.height[n] > 0;
        }

        int frontBox(boolean left, int column, int row) {
            for (int place = boxes - 1; place >= 0; place--) {
                int n = boxAt(place);
                if (inRow(n, row)) {
                    int from = column(left, n);
                    if (from <= column && column < from + tree.width[n]) {
                        return n;
                    }
                }
            }
            return NONE;
        }

        int valueOf(int n, int what) {
            if (!tree.has(n) || what >= 9 && !tree.isBox(n)) {
                return NONE;
            }
            switch (what) {
                case 0:
                    return tree.parent[n];
                case 1:
                    return tree.dx[n];
                case 2:
                    return tree.dy[n];
                case 3:
                    return tree.dz[n];
                case 4:
                    return x[n];
                case 5:
                    return y[n];
                case 6:
                    return z[n];
                case 7:
                    return tree.around[n];
                case 8:
                    return tree.children(n);
                case 9:
                    return tree.width[n];
                case 10:
                    return tree.height[n];
                case 11:
                    return tree.shades[n];
                case 12:
                    return rawShift(stage.settings[GAIN], z[n]);
                case 13:
                    return shift[n];
                case 14:
                    return leftColumn[n];
                default:
                    return rightColumn[n];
            }
        }
    }

    /** A stage with what both eyes see of it: the window, the title's place, and the images row by row. */
    private static final class View {
        final Placing placing = new Placing();
        final Stage stage = placing.stage;
        private final Tree tree = stage.tree;
        private int leftEdge;
        private int rightEdge;
        private int titleRow;
        private int titleShift;
        // Only one row of each image is held: whole images would fill the room.
        private final int[] leftCells = new int[MAX_WIDTH];
        private final int[] rightCells = new int[MAX_WIDTH];
        private int heldRow;

        void measure() {
            heldRow = NONE;
            placing.measure();
            leftEdge = windowShift(true);
            rightEdge = windowShift(false);
            findTitle();
        }

        // Each round takes a greater shift, so there are no more rounds than shifts.
        private int windowShift(boolean atLeft) {
            int edge = 0;
            for (int round = 0; round <= MAX_SHIFT; round++) {
                int next = greatestCut(atLeft, edge);
                if (next == edge) {
                    return edge;
                }
                edge = next;
            }
            return edge;
        }

        private int greatestCut(boolean atLeft, int edge) {
            int greatest = edge;
            for (int n = 0; n < tree.count && n < MAX_NODES; n++) {
                if (placing.shift[n] > greatest && isCut(atLeft, n, edge)) {
                    greatest = placing.shift[n];
                }
            }
            return greatest;
        }

        // Each side is masked in one image alone; in the other one the frame cuts.
        private boolean isCut(boolean atLeft, int n, int edge) {
            if (!placing.inFrame(n)) {
                return false;
            }
            int left = placing.leftColumn[n];
            int right = placing.rightColumn[n];
            int width = tree.width[n];
            if (atLeft) {
                return crosses(left, width, edge) || crosses(right, width, 0);
            }
            return crosses(left, width, stage.width) || crosses(right, width, stage.width - edge);
        }

        // The border is the first column behind the line that would cut.
        private static boolean crosses(int from, int width, int border) {
            return from < border && from + width > border;
        }

        private void findTitle() {
            titleRow = NONE;
            titleShift = NONE;
            if (stage.titleLength == 0) {
                return;
            }
            for (int row = stage.titleY; row >= 0; row--) {
                for (int shift = 0; shift <= stage.schedule.high; shift++) {
                    if (titleCanStand(true, row, shift) && titleCanStand(false, row, shift)) {
                        titleRow = row;
                        titleShift = shift;
                        return;
                    }
                }
            }
        }

        private boolean titleCanStand(boolean left, int row, int shift) {
            int from = columnOf(left, stage.titleX, shift);
            int to = from + stage.titleLength;
            if (from < firstOpen(left) || to > endOfOpen(left)) {
                return false;
            }
            for (int n = 0; n < tree.count && n < MAX_NODES; n++) {
                if (placing.shift[n] >= shift && placing.inRow(n, row)) {
                    int column = placing.column(left, n);
                    if (column < to && column + tree.width[n] > from) {
                        return false;
                    }
                }
            }
            return true;
        }

        private int firstOpen(boolean left) {
            return left ? leftEdge : 0;
        }

        private int endOfOpen(boolean left) {
            return left ? stage.width : stage.width - rightEdge;
        }

        private int titleColumn(boolean left) {
            return titleRow < 0 ? NONE : columnOf(left, stage.titleX, titleShift);
        }

        int titleValue(int what) {
            if (stage.titleLength == 0) {
                return NONE;
            }
            switch (what) {
                case 0:
                    return stage.titleX;
                case 1:
                    return stage.titleY;
                case 2:
                    return stage.titleLength;
                case 3:
                    return titleRow;
                case 4:
                    return titleShift;
                default:
                    return titleColumn(what == 5);
            }
        }

        int wholeValue(int what) {
            switch (what) {
                case 0:
                    return stage.width;
                case 1:
                    return stage.height;
                case 2:
                    return tree.count;
                case 3:
                    return tree.boxes();
                case 4:
                    return stage.schedule.count;
                case 5:
                    return stage.schedule.time;
                case 6:
                    return stage.schedule.present();
                case 7:
                    return stage.schedule.low;
                case 8:
                    return stage.schedule.high;
                case 9:
                    return placing.percentage;
                case 10:
                    return leftEdge;
                case 11:
                    return rightEdge;
                case 12:
                    return stage.settings[GAIN];
                case 13:
                    return stage.settings[RATE];
                case 14:
                    return stage.settings[BACKGROUND];
                default:
                    return stage.settings[LEAK];
            }
        }

        int shadeAt(boolean left, int column, int row) {
            if (column < firstOpen(left) || column >= endOfOpen(left)) {
                return 0;
            }
            int from = titleColumn(left);
            if (row == titleRow && from <= column && column < from + stage.titleLength) {
                return TITLE_SHADE;
            }
            int n = placing.frontBox(left, column, row);
            return tree.has(n) ? tree.shades[n] : stage.settings[BACKGROUND];
        }

        int ghostAt(int column, int row) {
            return ghostOf(shadeAt(true, column, row), shadeAt(false, column, row));
        }

        private int ghostOf(int left, int right) {
            return stage.settings[LEAK] * Math.abs(left - right) / 100;
        }

        int countGhosts(int least) {
            int count = 0;
            int inRow = 0;
            for (int row = 0; row < stage.height; row++) {
                boolean anew = holdRow(row);
                if (anew || row == 0) {
                    inRow = countInHeldRow(least);
                }
                count += inRow;
            }
            return count;
        }

        private int countInHeldRow(int least) {
            int count = 0;
            for (int column = 0; column < stage.width && column < MAX_WIDTH; column++) {
                count += ghostOf(leftCells[column], rightCells[column]) >= least ? 1 : 0;
            }
            return count;
        }

        int sumOfGhosts(int row) {
            holdRow(row);
            int sum = 0;
            for (int column = 0; column < stage.width && column < MAX_WIDTH; column++) {
                sum += ghostOf(leftCells[column], rightCells[column]);
            }
            return sum;
        }

        long hashImages(long start) {
            long hash = start;
            for (int row = 0; row < stage.height; row++) {
                holdRow(row);
                for (int column = 0; column < stage.width && column < MAX_WIDTH; column++) {
                    hash = 31 * hash + leftCells[column];
                    hash = 31 * hash + rightCells[column];
                }
            }
            return hash;
        }

        // Tells whether the cells were painted anew: a row like the one above it is taken as it is.
        private boolean holdRow(int row) {
            boolean held = row == heldRow || row == heldRow + 1 && isLikeAbove(row);
            heldRow = row;
            if (!held) {
                paintRow(true, row, leftCells);
                paintRow(false, row, rightCells);
            }
            return !held;
        }

        private boolean isLikeAbove(int row) {
            if (row == titleRow || row - 1 == titleRow) {
                return false;
            }
            for (int n = 0; n < tree.count && n < MAX_NODES; n++) {
                if (placing.inRow(n, row) != placing.inRow(n, row - 1)) {
                    return false;
                }
            }
            return true;
        }

        private void paintRow(boolean left, int row, int[] cells) {
            fill(cells, 0, stage.width, stage.settings[BACKGROUND]);
            for (int place = 0; place < placing.boxes; place++) {
                int n = placing.boxAt(place);
                if (placing.inRow(n, row)) {
                    int from = placing.column(left, n);
                    fill(cells, from, from + tree.width[n], tree.shades[n]);
                }
            }
            if (row == titleRow) {
                int from = titleColumn(left);
                fill(cells, from, from + stage.titleLength, TITLE_SHADE);
            }
            fill(cells, 0, firstOpen(left), 0);
            fill(cells, endOfOpen(left), stage.width, 0);
        }

        private void fill(int[] cells, int from, int to, int value) {
            int end = Math.min(to, Math.min(stage.width, cells.length));
            for (int column = Math.max(from, 0); column < end; column++) {
                cells[column] = value;
            }
        }
    }

    /** The latest states from before the calls, each made when it is first needed. */
    private static final class History {
        int count;
        private final Stage[] saved = new Stage[MAX_STATES];

        void save(Stage now) {
            if (count >= MAX_STATES) {
                dropOldest();
            }
            if (count < 0 || count >= MAX_STATES) {
                return;
            }
            Stage slot = saved[count];
            if (slot == null) {
                slot = new Stage();
                saved[count] = slot;
            }
            slot.copyFrom(now);
            count++;
        }

        // The oldest one's rows are used again for the next state.
        private void dropOldest() {
            Stage oldest = saved[0];
            for (int n = 1; n < MAX_STATES; n++) {
                saved[n - 1] = saved[n];
            }
            saved[MAX_STATES - 1] = oldest;
            count = MAX_STATES - 1;
        }

        void restore(Stage now) {
            if (count < 1 || count > MAX_STATES) {
                return;
            }
            count--;
            Stage latest = saved[count];
            if (latest != null) {
                now.copyFrom(latest);
            }
        }
    }

    /** The words of commands, each with how many numbers follow it. */
    private enum Word {
        FRAME("frame", 2),
        GROUP("group", 3),
        BOX("box", 6),
        BACK("back", 4),
        SCENE("scene", 3),
        SET("set", 2),
        TITLE("title", 3),
        DROP("drop", 1),
        TICK("tick", 1);

        final String text;
        final int numbers;

        Word(String text, int numbers) {
            this.text = text;
            this.numbers = numbers;
        }
    }

    /** The command text, and the reading of it, one command at a time. */
    private static final class Script {
        private static final int NO_FAULT = -1;
        private static final int END = -1;
        private static final int MAX_NUMBERS = 6;

        int length;
        private final int[] bytes = new int[MAX_TEXT];
        private final int[] numbers = new int[MAX_NUMBERS];
        private int at;
        private Word word;

        int append(int value) {
            if (length >= 0 && length < MAX_TEXT) {
                bytes[length] = value;
                length++;
            }
            return length;
        }

        private int byteAt(int index) {
            return index >= 0 && index < length && index < MAX_TEXT ? bytes[index] : END;
        }

        private void skipSpaces() {
            while (at < length && byteAt(at) == ' ') {
                at++;
            }
        }

        int findFault() {
            at = 0;
            skipSpaces();
            for (int n = 0; n < MAX_TEXT && at < length; n++) {
                if (!readCommand()) {
                    return at;
                }
                skipSpaces();
            }
            return NO_FAULT;
        }

        int runOn(Stage stage) {
            at = 0;
            skipSpaces();
            int done = 0;
            for (int n = 0; n < MAX_TEXT && at < length; n++) {
                if (!readCommand() || !carryOut(stage)) {
                    return done;
                }
                done++;
                skipSpaces();
            }
            return done;
        }

        // Where it answers false, the place in the text stays at the fault.
        private boolean readCommand() {
            int start = at;
            while (at < length && byteAt(at) >= 'a' && byteAt(at) <= 'z') {
                at++;
            }
            Word read = wordBetween(start, at);
            if (read == null) {
                at = start;
                return false;
            }
            word = read;
            for (int n = 0; n < read.numbers && n < MAX_NUMBERS; n++) {
                if (!readNumber(n)) {
                    return false;
                }
            }
            skipSpaces();
            if (byteAt(at) != ';') {
                return false;
            }
            at++;
            return true;
        }

        private Word wordBetween(int start, int end) {
            for (Word candidate : WORDS) {
                if (candidate != null && isWritten(candidate.text, start, end)) {
                    return candidate;
                }
            }
            return null;
        }

        private boolean isWritten(String text, int start, int end) {
            if (text.length() != end - start) {
                return false;
            }
            for (int n = 0; n < text.length(); n++) {
                if (text.charAt(n) != byteAt(start + n)) {
                    return false;
                }
            }
            return true;
        }

        private boolean readNumber(int index) {
            if (byteAt(at) != ' ') {
                return false;
            }
            skipSpaces();
            if (!isDigit(byteAt(at)) || index < 0 || index >= MAX_NUMBERS) {
                return false;
            }
            int value = 0;
            for (int digits = 0; digits < 3 && isDigit(byteAt(at)); digits++) {
                value = 10 * value + byteAt(at) - '0';
                at++;
            }
            numbers[index] = value;
            return true;
        }

        private static boolean isDigit(int value) {
            return value >= '0' && value <= '9';
        }

        private boolean carryOut(Stage stage) {
            Word read = word;
            if (read == null || faultOn(stage, read) != FINE) {
                return false;
            }
            applyTo(stage, read);
            return true;
        }

        private int faultOn(Stage stage, Word read) {
            switch (read) {
                case FRAME:
                    return stage.faultOfFrame(numbers[0], numbers[1]);
                case GROUP:
                    return stage.tree.faultOfGroup(NONE, numbers[0], numbers[1], numbers[2]);
                case BOX:
                    return stage.tree.faultOfBox(
                            numbers[0], numbers[1], numbers[2], numbers[3], numbers[4], numbers[5]);
                case BACK:
                    return stage.tree.faultOfPlacing(numbers[0], numbers[1], numbers[2], -numbers[3]);
                case SCENE:
                    return stage.schedule.faultOfScene(-numbers[0], numbers[1], numbers[2]);
                case SET:
                    return stage.faultOfSetting(numbers[0], numbers[1]);
                case TITLE:
                    return stage.faultOfTitle(numbers[0], numbers[1], numbers[2]);
                case DROP:
                    return stage.tree.faultOfNumber(numbers[0]);
                default:
                    return stage.faultOfTicks(numbers[0]);
            }
        }

        private void applyTo(Stage stage, Word read) {
            switch (read) {
                case FRAME:
                    stage.reframe(numbers[0], numbers[1]);
                    break;
                case GROUP:
                    stage.tree.appendGroup(NONE, numbers[0], numbers[1], numbers[2]);
                    break;
                case BOX:
                    stage.tree.appendBox(
                            numbers[0], numbers[1], numbers[2], numbers[3], numbers[4], numbers[5]);
                    break;
                case BACK:
                    stage.tree.placeAt(numbers[0], numbers[1], numbers[2], -numbers[3]);
                    break;
                case SCENE:
                    stage.schedule.append(-numbers[0], numbers[1], numbers[2]);
                    break;
                case SET:
                    stage.change(numbers[0], numbers[1]);
                    break;
                case TITLE:
                    stage.entitle(numbers[0], numbers[1], numbers[2]);
                    break;
                case DROP:
                    stage.tree.drop(numbers[0]);
                    break;
                default:
                    stage.pass(numbers[0]);
                    break;
            }
        }
    }
}
