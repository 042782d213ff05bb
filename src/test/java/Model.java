import java.util.ArrayDeque;
import java.util.ArrayList;
import java.util.Deque;
import java.util.List;
import java.util.regex.Matcher;
import java.util.regex.Pattern;

/** The document once more, cell by cell and without any thought of speed, to be compared with EyeStage. */
final class Model {
    static final int NONE = -1000;

    static final class Node {
        Node parent;
        boolean box;
        int dx, dy, dz, w, h, shade = 8;

        int sum(int axis) {
            int own = axis == 0 ? dx : axis == 1 ? dy : dz;
            return parent == null ? own : own + parent.sum(axis);
        }

        int around() {
            return parent == null ? 0 : 1 + parent.around();
        }

        boolean isIn(Node other) {
            return this == other || parent != null && parent.isIn(other);
        }
    }

    static final class State {
        int width = 80, height = 40;
        List<Node> nodes = new ArrayList<>();
        List<int[]> scenes = new ArrayList<>();
        int[] settings = {20, 1, 4, 10};
        int[] title;
        int time, low = -5, high = 5;

        State copy() {
            State c = new State();
            c.width = width;
            c.height = height;
            for (Node n : nodes) {
                Node m = new Node();
                m.parent = n.parent == null ? null : c.nodes.get(nodes.indexOf(n.parent));
                m.box = n.box;
                m.dx = n.dx;
                m.dy = n.dy;
                m.dz = n.dz;
                m.w = n.w;
                m.h = n.h;
                m.shade = n.shade;
                c.nodes.add(m);
            }
            for (int[] s : scenes) {
                c.scenes.add(s.clone());
            }
            c.settings = settings.clone();
            c.title = title == null ? null : title.clone();
            c.time = time;
            c.low = low;
            c.high = high;
            return c;
        }

        int presentScene() {
            int index = NONE;
            int begin = 0;
            for (int i = 0; i < scenes.size(); i++) {
                if (time >= begin) {
                    index = i;
                }
                begin += scenes.get(i)[2];
            }
            return index;
        }

        void passOne() {
            time++;
            int i = presentScene();
            if (i != NONE) {
                for (int step = 0; step < settings[1]; step++) {
                    low += Integer.signum(scenes.get(i)[0] - low);
                    high += Integer.signum(scenes.get(i)[1] - high);
                }
            }
        }

        int raw(Node n) {
            return raw(n, settings[0]);
        }

        int raw(Node n, int gain) {
            return Math.floorDiv(gain * n.sum(2), 100);
        }

        boolean within(int gain, int g, int low, int high) {
            for (Node n : nodes) {
                int d = Math.floorDiv(raw(n, gain) * g, 100);
                if (n.box && (d < low || d > high)) {
                    return false;
                }
            }
            return true;
        }

        int percentage(int gain, int low, int high) {
            int best = -1;
            for (int g = 0; g <= 100; g++) {
                if (within(gain, g, low, high)) {
                    best = g;
                }
            }
            return best;
        }

        int percentage() {
            return percentage(settings[0], low, high);
        }
    }

    /** All that is found from a state, found once. */
    static final class Seen {
        final State s;
        final int percentage;
        final int a, b;
        int titleRow = NONE, titleShift = NONE;

        Seen(State s) {
            this.s = s;
            percentage = s.percentage();
            a = window(true);
            b = window(false);
            findTitle();
        }

        int shift(Node n) {
            return Math.floorDiv(s.raw(n) * percentage, 100);
        }

        static int column(boolean left, int x, int d) {
            return left ? x + (int) Math.floor((d + 1) / 2.0) : x - (int) Math.floor(d / 2.0);
        }

        int column(boolean left, Node n) {
            return column(left, n.sum(0), shift(n));
        }

        boolean has(boolean left, Node n, int column, int row) {
            int from = column(left, n);
            int top = n.sum(1);
            return n.box && column >= from && column <= from + n.w - 1 && row >= top && row <= top + n.h - 1;
        }

        private int window(boolean atLeft) {
            int mask = 0;
            while (true) {
                int greatest = mask;
                for (Node n : s.nodes) {
                    if (n.box && shift(n) > mask && (cut(n, true, atLeft, mask) || cut(n, false, atLeft, mask))) {
                        greatest = Math.max(greatest, shift(n));
                    }
                }
                if (greatest == mask) {
                    return mask;
                }
                mask = greatest;
            }
        }

        private boolean cut(Node n, boolean leftImage, boolean atLeft, int mask) {
            boolean rowInFrame = false;
            for (int row = n.sum(1); row < n.sum(1) + n.h; row++) {
                rowInFrame |= row >= 0 && row < s.height;
            }
            int first = leftImage && atLeft ? mask : 0;
            int last = !leftImage && !atLeft ? s.width - mask - 1 : s.width - 1;
            int from = column(leftImage, n);
            boolean outside = false;
            boolean inside = false;
            for (int c = from; c < from + n.w; c++) {
                outside |= atLeft ? c < first : c > last;
                inside |= atLeft ? c >= first : c <= last;
            }
            return rowInFrame && outside && inside;
        }

        boolean masked(boolean left, int column) {
            return left ? column <= a - 1 : column >= s.width - b;
        }

        private boolean possible(int row, int t) {
            for (int k = 0; k < s.title[2]; k++) {
                for (int image = 0; image < 2; image++) {
                    boolean left = image == 0;
                    int c = column(left, s.title[0], t) + k;
                    if (c < 0 || c >= s.width || masked(left, c)) {
                        return false;
                    }
                    for (Node n : s.nodes) {
                        if (has(left, n, c, row) && shift(n) >= t) {
                            return false;
                        }
                    }
                }
            }
            return true;
        }

        private void findTitle() {
            for (int row = s.title == null ? -1 : s.title[1]; row >= 0 && titleRow == NONE; row--) {
                for (int t = 0; t <= s.high && titleRow == NONE; t++) {
                    if (possible(row, t)) {
                        titleRow = row;
                        titleShift = t;
                    }
                }
            }
        }

        int shown(boolean left, int column, int row) {
            int best = NONE;
            for (int i = 0; i < s.nodes.size(); i++) {
                if (has(left, s.nodes.get(i), column, row)
                        && (best == NONE || shift(s.nodes.get(i)) >= shift(s.nodes.get(best)))) {
                    best = i;
                }
            }
            return best;
        }

        int shade(boolean left, int column, int row) {
            if (masked(left, column)) {
                return 0;
            }
            if (titleRow == row) {
                int from = column(left, s.title[0], titleShift);
                if (column >= from && column < from + s.title[2]) {
                    return 15;
                }
            }
            int box = shown(left, column, row);
            return box == NONE ? s.settings[2] : s.nodes.get(box).shade;
        }

        int ghost(int column, int row) {
            return s.settings[3] * Math.abs(shade(true, column, row) - shade(false, column, row)) / 100;
        }

        int ghosts(int least) {
            int count = 0;
            for (int row = 0; row < s.height; row++) {
                for (int column = 0; column < s.width; column++) {
                    count += ghost(column, row) >= least ? 1 : 0;
                }
            }
            return count;
        }
    }

    State s = new State();
    String text = "";
    final Deque<State> saved = new ArrayDeque<>();
    private boolean saving = true;

    private void save() {
        if (saving) {
            saved.addLast(s.copy());
            if (saved.size() > 4) {
                saved.removeFirst();
            }
        }
    }

    private static void range(int v, int least, int greatest) {
        if (v < least || v > greatest) {
            throw new IllegalArgumentException();
        }
    }

    private Node at(int n) {
        if (n < 0 || n >= s.nodes.size()) {
            throw new IndexOutOfBoundsException();
        }
        return s.nodes.get(n);
    }

    private void cell(int column, int row) {
        if (column < 0 || column >= s.width || row < 0 || row >= s.height) {
            throw new IndexOutOfBoundsException();
        }
    }

    int begin(int width, int height) {
        range(width, 20, 200);
        range(height, 10, 120);
        save();
        int before = s.time;
        int[] settings = s.settings;
        s = new State();
        s.settings = settings;
        s.width = width;
        s.height = height;
        return before;
    }

    private int add(boolean box, int parent, int dx, int dy, int dz, int w, int h) {
        Node in = parent == NONE ? null : at(parent);
        if (in != null && in.box) {
            throw new IllegalArgumentException();
        }
        range(dx, -200, 200);
        range(dy, -200, 200);
        range(dz, -200, 200);
        range(w, 1, 100);
        range(h, 1, 100);
        Node n = new Node();
        n.parent = in;
        if (s.nodes.size() == 20 || n.around() > 5) {
            throw new IllegalStateException();
        }
        save();
        n.parent = parent == NONE ? null : s.nodes.get(parent);
        n.box = box;
        n.dx = dx;
        n.dy = dy;
        n.dz = dz;
        n.w = w;
        n.h = h;
        s.nodes.add(n);
        return s.nodes.size() - 1;
    }

    int addGroup(int parent, int dx, int dy, int dz) {
        return add(false, parent, dx, dy, dz, 1, 1);
    }

    int addBox(int parent, int dx, int dy, int dz, int w, int h) {
        return add(true, parent, dx, dy, dz, w, h);
    }

    int move(int node, int dx, int dy, int dz) {
        Node n = at(node);
        range(dx, -200, 200);
        range(dy, -200, 200);
        range(dz, -200, 200);
        save();
        int before = n.dz;
        n.dx = dx;
        n.dy = dy;
        n.dz = dz;
        return before;
    }

    int setShade(int node, int shade) {
        Node n = at(node);
        range(n.box ? shade : -1, 0, 15);
        save();
        int before = n.shade;
        n.shade = shade;
        return before;
    }

    int removeNode(int node) {
        Node gone = at(node);
        save();
        s.nodes.removeIf(n -> n.isIn(gone));
        return s.nodes.size();
    }

    int addScene(int least, int greatest, int ticks) {
        range(least, -20, 0);
        range(greatest, 0, 20);
        range(ticks, 1, 50);
        if (s.scenes.size() == 8) {
            throw new IllegalStateException();
        }
        save();
        s.scenes.add(new int[] {least, greatest, ticks});
        return s.scenes.size() - 1;
    }

    int set(int what, int value) {
        range(what, 0, 3);
        range(value, what == 1 ? 1 : 0, what == 1 ? 5 : what == 2 ? 15 : 100);
        save();
        int before = s.settings[what];
        s.settings[what] = value;
        return before;
    }

    int setTitle(int x, int y, int length) {
        range(x, 0, s.width - 1);
        range(y, 0, s.height - 1);
        range(length, 1, 40);
        save();
        int before = s.title == null ? 0 : s.title[2];
        s.title = new int[] {x, y, length};
        return before;
    }

    int clearTitle() {
        save();
        int before = s.title == null ? 0 : s.title[2];
        s.title = null;
        return before;
    }

    int tick(int ticks) {
        range(ticks, 1, 200);
        save();
        for (int i = 0; i < ticks; i++) {
            s.passOne();
        }
        return s.time;
    }

    int node(int node, int what) {
        Node n = at(node);
        range(what, 0, 15);
        return nodeValue(new Seen(s), n, what);
    }

    private int nodeValue(Seen seen, Node n, int what) {
        if (what >= 9 && !n.box) {
            return NONE;
        }
        int inside = 0;
        for (Node m : s.nodes) {
            inside += m.parent == n ? 1 : 0;
        }
        int[] values = {n.parent == null ? NONE : s.nodes.indexOf(n.parent), n.dx, n.dy, n.dz,
            n.sum(0), n.sum(1), n.sum(2), n.around(), inside, n.w, n.h, n.shade, s.raw(n),
            seen.shift(n), seen.column(true, n), seen.column(false, n)};
        return values[what];
    }

    int painted(int place) {
        range(place, 0, Integer.MAX_VALUE);
        Seen seen = new Seen(s);
        List<Node> boxes = new ArrayList<>();
        for (Node n : s.nodes) {
            if (n.box) {
                boxes.add(n);
            }
        }
        boxes.sort((p, q) -> seen.shift(p) - seen.shift(q));
        return place < boxes.size() ? s.nodes.indexOf(boxes.get(place)) : NONE;
    }

    int scene(int scene, int what) {
        if (scene < 0 || scene >= s.scenes.size()) {
            throw new IndexOutOfBoundsException();
        }
        range(what, 0, 3);
        if (what < 3) {
            return s.scenes.get(scene)[what];
        }
        int begin = 0;
        for (int[] before : s.scenes.subList(0, scene)) {
            begin += before[2];
        }
        return begin;
    }

    int title(int what) {
        range(what, 0, 6);
        return titleValue(new Seen(s), what);
    }

    private int titleValue(Seen seen, int what) {
        if (s.title == null) {
            return NONE;
        }
        if (what < 3) {
            return s.title[what];
        }
        if (seen.titleRow == NONE) {
            return NONE;
        }
        return what == 3 ? seen.titleRow : what == 4 ? seen.titleShift
                : Seen.column(what == 5, s.title[0], seen.titleShift);
    }

    int whole(int what) {
        range(what, 0, 15);
        return wholeValue(new Seen(s), what);
    }

    private int wholeValue(Seen seen, int what) {
        int boxes = 0;
        for (Node n : s.nodes) {
            boxes += n.box ? 1 : 0;
        }
        int[] values = {s.width, s.height, s.nodes.size(), boxes, s.scenes.size(), s.time, s.presentScene(),
            s.low, s.high, seen.percentage, seen.a, seen.b,
            s.settings[0], s.settings[1], s.settings[2], s.settings[3]};
        return values[what];
    }

    int shade(boolean left, int column, int row) {
        cell(column, row);
        return new Seen(s).shade(left, column, row);
    }

    int shown(boolean left, int column, int row) {
        cell(column, row);
        return new Seen(s).shown(left, column, row);
    }

    int ghost(int column, int row) {
        cell(column, row);
        return new Seen(s).ghost(column, row);
    }

    int ghosts(int least) {
        range(least, 1, 15);
        return new Seen(s).ghosts(least);
    }

    double meanGhost(int row) {
        cell(0, row);
        Seen seen = new Seen(s);
        int sum = 0;
        for (int column = 0; column < s.width; column++) {
            sum += seen.ghost(column, row);
        }
        return (double) sum / (double) s.width;
    }

    int percentageFor(int least, int greatest) {
        range(least, -20, 0);
        range(greatest, 0, 20);
        return s.percentage(s.settings[0], least, greatest);
    }

    int fittingGain() {
        int best = -1;
        for (int gain = 0; gain <= 100; gain++) {
            best = s.percentage(gain, s.low, s.high) == 100 ? gain : best;
        }
        return best;
    }

    int fullAfter(int most) {
        range(most, 0, 200);
        State ahead = s.copy();
        for (int passed = 0; passed <= most; passed++) {
            if (ahead.percentage() == 100) {
                return passed;
            }
            ahead.passOne();
        }
        return NONE;
    }

    int ghostsWithout(int node, int least) {
        at(node);
        range(least, 1, 15);
        State without = s.copy();
        Node gone = without.nodes.get(node);
        without.nodes.removeIf(n -> n.isIn(gone));
        return new Seen(without).ghosts(least);
    }

    int type(int value) {
        range(value, 0, 127);
        if (text.length() == 150) {
            throw new IllegalStateException();
        }
        text += (char) value;
        return text.length();
    }

    int clearCommands() {
        int length = text.length();
        text = "";
        return length;
    }

    private static final String[] WORDS = {"frame", "group", "box", "back", "scene", "set", "title", "drop", "tick"};
    private static final int[] NUMBERS = {2, 3, 6, 4, 3, 2, 3, 1, 1};
    private static final Pattern TEXT = textPattern();

    private static Pattern textPattern() {
        StringBuilder any = new StringBuilder();
        for (int i = 0; i < WORDS.length; i++) {
            any.append(i == 0 ? "" : "|").append(WORDS[i]).append("(?: ++[0-9]{1,3}+){").append(NUMBERS[i]).append('}');
        }
        return Pattern.compile(" *+(?:(?:" + any + ") *+; *+)*");
    }

    /** Looks at the prefixes of the text: the first one that cannot be gone on with tells the fault. */
    static int fault(String text) {
        for (int i = 0; i <= text.length(); i++) {
            boolean atEnd = i == text.length();
            Matcher m = TEXT.matcher(atEnd ? text : text.substring(0, i + 1));
            boolean whole = m.matches();
            if (atEnd ? whole : whole || m.hitEnd()) {
                if (atEnd) {
                    return -1;
                }
                continue;
            }
            int start = i;
            int end = i < text.length() && Character.isLowerCase(text.charAt(i)) ? i + 1 : i;
            while (start > 0 && text.charAt(start - 1) >= 'a' && text.charAt(start - 1) <= 'z') {
                start--;
            }
            boolean wordMayStand = TEXT.matcher(text.substring(0, start)).matches();
            boolean known = List.of(WORDS).contains(text.substring(start, end));
            return wordMayStand && start < end && !known ? start : i;
        }
        return -1;
    }

    int runCommands() {
        int fault = fault(text);
        if (fault >= 0) {
            return -10 - fault;
        }
        save();
        saving = false;
        int done = 0;
        try {
            for (String command : text.split(";")) {
                if (!command.isBlank()) {
                    carryOut(command.trim().split(" +"));
                    done++;
                }
            }
        } catch (IllegalArgumentException | IndexOutOfBoundsException | IllegalStateException stop) {
            // those before it stay done
        } finally {
            saving = true;
        }
        return done;
    }

    private void carryOut(String[] parts) {
        int[] v = new int[parts.length];
        for (int i = 1; i < parts.length; i++) {
            v[i] = Integer.parseInt(parts[i]);
        }
        switch (parts[0]) {
            case "frame" -> begin(v[1], v[2]);
            case "group" -> addGroup(NONE, v[1], v[2], v[3]);
            case "box" -> addBox(v[1], v[2], v[3], v[4], v[5], v[6]);
            case "back" -> move(v[1], v[2], v[3], -v[4]);
            case "scene" -> addScene(-v[1], v[2], v[3]);
            case "set" -> set(v[1], v[2]);
            case "title" -> setTitle(v[1], v[2], v[3]);
            case "drop" -> removeNode(v[1]);
            default -> tick(v[1]);
        }
    }

    int undo() {
        if (saved.isEmpty()) {
            throw new IllegalStateException();
        }
        s = saved.removeLast();
        return saved.size();
    }

    long digest() {
        Seen seen = new Seen(s);
        List<Integer> values = new ArrayList<>();
        values.add(saved.size());
        values.add(text.length());
        for (int what = 0; what <= 15; what++) {
            values.add(wholeValue(seen, what));
        }
        for (Node n : s.nodes) {
            for (int what = 0; what <= 15; what++) {
                values.add(nodeValue(seen, n, what));
            }
        }
        for (int i = 0; i < s.scenes.size(); i++) {
            for (int what = 0; what <= 3; what++) {
                values.add(scene(i, what));
            }
        }
        for (int what = 0; what <= 6; what++) {
            values.add(titleValue(seen, what));
        }
        for (int row = 0; row < s.height; row++) {
            for (int column = 0; column < s.width; column++) {
                values.add(seen.shade(true, column, row));
                values.add(seen.shade(false, column, row));
            }
        }
        long h = 18767;
        for (int v : values) {
            h = 31 * h + v;
        }
        return h;
    }
}
