import java.util.ArrayList;
import java.util.List;
import java.util.Random;
import java.util.function.Supplier;

/** Runs of calls drawn from fixed seeds, answered by EyeStage and by the Model side by side. */
public final class RandomRunsTest {
    private static final int CALLS = 512;

    private final Random random;
    private final EyeStage stage = new EyeStage();
    private final Model model = new Model();
    private final List<String> told = new ArrayList<>();
    private final boolean small;
    private boolean failed;

    private RandomRunsTest(long seed) {
        random = new Random(seed);
        small = seed % 4 != 0;
    }

    public static void main(String[] args) {
        int runs = args.length > 0 ? Integer.parseInt(args[0]) : 120;
        int first = args.length > 1 ? Integer.parseInt(args[1]) : 1;
        for (int seed = first; seed < first + runs && Check.wrong == 0; seed++) {
            new RandomRunsTest(seed).run(seed);
        }
        Check.end("RandomRunsTest");
    }

    private void run(int seed) {
        for (int call = 0; call < CALLS && !failed; call++) {
            if (call == 0 && small) {
                int w = 20 + random.nextInt(20);
                int h = 10 + random.nextInt(8);
                both("begin(" + w + "," + h + ")", () -> stage.begin(w, h), () -> model.begin(w, h));
            } else {
                step(random.nextInt(100));
            }
        }
        if (!failed) {
            both("digest", stage::digest, model::digest);
        }
        if (failed) {
            Check.tell("run of seed " + seed + ": " + String.join(" ", told));
        }
    }

    private void both(String call, Supplier<Object> ours, Supplier<Object> due) {
        String a = answer(ours);
        String b = answer(due);
        told.add(call + "=" + a);
        if (!a.equals(b)) {
            failed = true;
            Check.tell(call + " answered " + a + ", due is " + b);
        }
    }

    private static String answer(Supplier<Object> call) {
        try {
            return call.get().toString();
        } catch (RuntimeException e) {
            return e.getClass().getName();
        }
    }

    private int near(int least, int greatest) {
        int kind = random.nextInt(40);
        if (kind == 0) {
            return least - 1;
        }
        if (kind == 1) {
            return greatest + 1;
        }
        if (kind == 2) {
            return random.nextBoolean() ? Integer.MAX_VALUE : Integer.MIN_VALUE;
        }
        if (kind < 6) {
            return random.nextBoolean() ? least : greatest;
        }
        return least + random.nextInt(Math.max(1, greatest - least + 1));
    }

    private int node() {
        return random.nextInt(12) == 0 ? near(0, 19) : random.nextInt(Math.max(1, model.s.nodes.size()));
    }

    private int parent() {
        int kind = random.nextInt(20);
        if (kind < 8) {
            return Model.NONE;
        }
        return kind == 8 ? near(-2, 20) : kind == 9 ? -1 : random.nextInt(1 + model.s.nodes.size());
    }

    private int x() {
        return random.nextInt(30) == 0 ? near(-200, 200) : random.nextInt(model.s.width + 24) - 12;
    }

    private int y() {
        return random.nextInt(30) == 0 ? near(-200, 200) : random.nextInt(model.s.height + 8) - 4;
    }

    private int z() {
        return random.nextInt(4) == 0 ? near(-200, 200) : random.nextInt(60) - 20;
    }

    private void step(int kind) {
        if (kind < 40) {
            change(kind);
        } else if (kind < 90) {
            look(kind - 40);
        } else {
            write(kind - 90);
        }
    }

    private void change(int kind) {
        int p = parent();
        int n = node();
        int x = x();
        int y = y();
        int z = z();
        int w = random.nextInt(3) == 0 ? near(1, 100) : 1 + random.nextInt(20);
        int h = random.nextInt(3) == 0 ? near(1, 100) : 1 + random.nextInt(8);
        String place = x + "," + y + "," + z;
        switch (kind) {
            case 0, 1, 2, 3, 4, 5, 6, 7, 8, 9:
                both("addBox(" + p + "," + place + "," + w + "," + h + ")",
                        () -> stage.addBox(p, x, y, z, w, h), () -> model.addBox(p, x, y, z, w, h));
                break;
            case 10, 11, 12, 13:
                both("addGroup(" + p + "," + place + ")",
                        () -> stage.addGroup(p, x, y, z), () -> model.addGroup(p, x, y, z));
                break;
            case 14, 15, 16, 17, 18:
                both("move(" + n + "," + place + ")", () -> stage.move(n, x, y, z), () -> model.move(n, x, y, z));
                break;
            case 19, 20, 21:
                int shade = near(0, 15);
                both("setShade(" + n + "," + shade + ")",
                        () -> stage.setShade(n, shade), () -> model.setShade(n, shade));
                break;
            case 22, 23:
                both("removeNode(" + n + ")", () -> stage.removeNode(n), () -> model.removeNode(n));
                break;
            default:
                changeRest(kind);
                break;
        }
    }

    private void changeRest(int kind) {
        switch (kind) {
            case 24, 25, 26:
                int least = near(-20, 0);
                int greatest = near(0, 20);
                int length = near(1, 50);
                both("addScene(" + least + "," + greatest + "," + length + ")",
                        () -> stage.addScene(least, greatest, length), () -> model.addScene(least, greatest, length));
                break;
            case 27, 28, 29:
                int what = near(0, 3);
                int value = what == 1 ? near(1, 5) : what == 2 ? near(0, 15) : near(0, 100);
                both("set(" + what + "," + value + ")", () -> stage.set(what, value), () -> model.set(what, value));
                break;
            case 30, 31, 32, 33:
                int x = near(0, model.s.width - 1);
                int y = near(0, model.s.height - 1);
                int n = random.nextInt(4) == 0 ? near(1, 40) : near(1, 8);
                both("setTitle(" + x + "," + y + "," + n + ")",
                        () -> stage.setTitle(x, y, n), () -> model.setTitle(x, y, n));
                break;
            case 34:
                both("clearTitle()", stage::clearTitle, model::clearTitle);
                break;
            case 35, 36, 37:
                int ticks = random.nextBoolean() ? near(1, 200) : near(1, 10);
                both("tick(" + ticks + ")", () -> stage.tick(ticks), () -> model.tick(ticks));
                break;
            case 38:
                both("undo()", stage::undo, model::undo);
                break;
            default:
                int w = random.nextInt(3) == 0 && !small ? near(20, 200) : near(20, 30);
                int h = random.nextInt(3) == 0 && !small ? near(10, 120) : near(10, 16);
                if (random.nextInt(4) == 0) {
                    both("begin(" + w + "," + h + ")", () -> stage.begin(w, h), () -> model.begin(w, h));
                }
                break;
        }
    }

    private void look(int kind) {
        boolean left = random.nextBoolean();
        int column = near(0, model.s.width - 1);
        int row = near(0, model.s.height - 1);
        int n = node();
        int what = near(0, 15);
        switch (kind) {
            case 0, 1, 2, 3, 4, 5:
                both("node(" + n + "," + what + ")", () -> stage.node(n, what), () -> model.node(n, what));
                break;
            case 6, 7:
                int place = random.nextInt(5) == 0 ? near(0, 20) : random.nextInt(20);
                both("painted(" + place + ")", () -> stage.painted(place), () -> model.painted(place));
                break;
            case 8, 9:
                int scene = near(0, model.s.scenes.size() - 1);
                int value = near(0, 3);
                both("scene(" + scene + "," + value + ")", () -> stage.scene(scene, value), () -> model.scene(scene, value));
                break;
            case 10, 11, 12, 13, 14:
                int part = near(0, 6);
                both("title(" + part + ")", () -> stage.title(part), () -> model.title(part));
                break;
            case 15, 16, 17, 18, 19, 20:
                both("whole(" + what + ")", () -> stage.whole(what), () -> model.whole(what));
                break;
            case 21, 22, 23, 24, 25:
                both("shade(" + left + "," + column + "," + row + ")",
                        () -> stage.shade(left, column, row), () -> model.shade(left, column, row));
                break;
            case 26, 27, 28:
                both("shown(" + left + "," + column + "," + row + ")",
                        () -> stage.shown(left, column, row), () -> model.shown(left, column, row));
                break;
            case 29, 30, 31:
                both("ghost(" + column + "," + row + ")",
                        () -> stage.ghost(column, row), () -> model.ghost(column, row));
                break;
            default:
                lookAtMuch(kind, row, n);
                break;
        }
    }

    private void lookAtMuch(int kind, int row, int n) {
        int ghost = random.nextBoolean() ? near(1, 15) : 1;
        int least = near(-20, 0);
        int greatest = near(0, 20);
        int most = near(0, 200);
        switch (kind) {
            case 32, 33:
                both("ghosts(" + ghost + ")", () -> stage.ghosts(ghost), () -> model.ghosts(ghost));
                break;
            case 34, 35, 36:
                both("meanGhost(" + row + ")", () -> stage.meanGhost(row), () -> model.meanGhost(row));
                break;
            case 37, 38, 39:
                both("percentageFor(" + least + "," + greatest + ")",
                        () -> stage.percentageFor(least, greatest), () -> model.percentageFor(least, greatest));
                break;
            case 40, 41:
                both("fittingGain()", stage::fittingGain, model::fittingGain);
                break;
            case 42, 43, 44:
                both("fullAfter(" + most + ")", () -> stage.fullAfter(most), () -> model.fullAfter(most));
                break;
            case 45, 46:
                both("ghostsWithout(" + n + "," + ghost + ")",
                        () -> stage.ghostsWithout(n, ghost), () -> model.ghostsWithout(n, ghost));
                break;
            default:
                both("digest()", stage::digest, model::digest);
                break;
        }
    }

    private void write(int kind) {
        if (kind < 5) {
            for (char c : command().toCharArray()) {
                both("type(" + (int) c + ")", () -> stage.type(c), () -> model.type(c));
            }
        } else if (kind == 5) {
            int value = near(0, 127);
            both("type(" + value + ")", () -> stage.type(value), () -> model.type(value));
        } else {
            both("runCommands()", stage::runCommands, model::runCommands);
            if (random.nextInt(3) != 0) {
                both("clearCommands()", stage::clearCommands, model::clearCommands);
            }
        }
    }

    private String command() {
        int n = random.nextInt(Math.max(1, model.s.nodes.size()));
        String place = random.nextInt(40) + " " + random.nextInt(20) + " " + random.nextInt(60);
        String[] commands = {
            "frame " + (20 + random.nextInt(30)) + " " + (10 + random.nextInt(10)),
            "group " + place,
            "box " + n + " " + place + " " + random.nextInt(12) + "  00" + random.nextInt(9),
            "back " + n + " " + place,
            "scene " + random.nextInt(22) + " " + random.nextInt(22) + " " + random.nextInt(52),
            "set " + random.nextInt(5) + " " + random.nextInt(30),
            "title " + random.nextInt(40) + " " + random.nextInt(20) + " " + random.nextInt(10),
            "drop " + n,
            "tick " + random.nextInt(210)};
        String command = commands[random.nextInt(commands.length)] + (random.nextBoolean() ? ";" : "  ; ");
        if (random.nextInt(6) == 0) {
            int cut = random.nextInt(command.length());
            char put = " ;az09#\u0000\u007f".charAt(random.nextInt(9));
            command = command.substring(0, cut) + put + command.substring(cut + random.nextInt(2));
        }
        return command;
    }
}
