import java.lang.reflect.InvocationTargetException;
import java.lang.reflect.Method;
import java.util.Arrays;
import java.util.Comparator;
import java.util.List;
import java.util.function.LongSupplier;
import java.util.function.Supplier;

/** Counts and prints what is not as it is due. */
final class Check {
    static int wrong = 0;
    private static String test = "";

    private Check() {
    }

    /** A call with the number that is looked at on both sides of its bounds. */
    interface Call {
        long on(EyeStage stage, int value);
    }

    static void same(String what, long got, long due) {
        if (got != due) {
            tell(what + " answered " + got + ", due is " + due);
        }
    }

    static void same(String what, double got, double due) {
        if (Double.compare(got, due) != 0) {
            tell(what + " answered " + got + ", due is " + due);
        }
    }

    static void differs(String what, long got, long other) {
        if (got == other) {
            tell(what + " answered " + got + ", due is another number");
        }
    }

    /** The call must throw just this exception and leave the digest as it was. */
    static void refused(String what, EyeStage stage, Class<? extends RuntimeException> due, LongSupplier call) {
        long before = stage.digest();
        String got = "no exception";
        try {
            got = "the answer " + call.getAsLong();
        } catch (RuntimeException e) {
            got = e.getClass().getName();
        }
        if (!got.equals(due.getName())) {
            tell(what + " gave " + got + ", due is " + due.getName());
        }
        same("digest after " + what, stage.digest(), before);
    }

    static void noIndex(String what, EyeStage stage, LongSupplier call) {
        refused(what, stage, IndexOutOfBoundsException.class, call);
    }

    static void badValue(String what, EyeStage stage, LongSupplier call) {
        refused(what, stage, IllegalArgumentException.class, call);
    }

    static void badState(String what, EyeStage stage, LongSupplier call) {
        refused(what, stage, IllegalStateException.class, call);
    }

    static void accepted(String what, LongSupplier call) {
        try {
            call.getAsLong();
        } catch (RuntimeException e) {
            tell(what + " gave " + e.getClass().getName() + ", due is an answer");
        }
    }

    /** The call, each time on a new stage, must answer at both bounds and throw just beyond them and far beyond. */
    static void bounds(int least, int greatest, Supplier<EyeStage> fresh,
            Class<? extends RuntimeException> due, Call call) {
        for (int value : new int[] {least, greatest}) {
            EyeStage stage = fresh.get();
            accepted("the call with " + value, () -> call.on(stage, value));
        }
        for (int value : new int[] {Integer.MIN_VALUE, least - 1, greatest + 1, Integer.MAX_VALUE}) {
            EyeStage stage = fresh.get();
            refused("the call with " + value, stage, due, () -> call.on(stage, value));
        }
    }

    static void valueBounds(int least, int greatest, Supplier<EyeStage> fresh, Call call) {
        bounds(least, greatest, fresh, IllegalArgumentException.class, call);
    }

    static void indexBounds(int least, int greatest, Supplier<EyeStage> fresh, Call call) {
        bounds(least, greatest, fresh, IndexOutOfBoundsException.class, call);
    }

    /** Runs each test of the class that bears the number of a promise, as in promise07TheLastNode. */
    static void promises(Class<?> tests) {
        List<Method> methods = promiseMethods(tests);
        for (Method method : methods) {
            test = method.getName() + ": ";
            try {
                method.invoke(null);
            } catch (InvocationTargetException e) {
                tell("threw " + e.getCause());
            } catch (IllegalAccessException e) {
                tell("is not open to Check");
            }
        }
        test = "";
        end(tests.getName() + " (" + methods.size() + " tests)");
    }

    static List<Method> promiseMethods(Class<?> tests) {
        return Arrays.stream(tests.getDeclaredMethods())
                .filter(method -> method.getName().matches("promise\\d\\d.+"))
                .sorted(Comparator.comparing(Method::getName))
                .toList();
    }

    static void tell(String message) {
        wrong++;
        System.out.println(test + message);
    }

    static void end(String name) {
        System.out.println(name + ": " + (wrong == 0 ? "all as due" : wrong + " not as due"));
        if (wrong != 0) {
            System.exit(1);
        }
    }
}
