import java.util.function.LongSupplier;

/** Counts and prints what is not as it is due. */
final class Check {
    static int wrong = 0;

    private Check() {
    }

    static void same(String what, long got, long due) {
        if (got != due) {
            tell(what + " answered " + got + ", due is " + due);
        }
    }

    static void same(String what, double got, double due) {
        if (Double.compare(got, due) != 0) {
            tell(what + " answered " + got + ", due is " + due);
        }
    }

    /** The call must throw just this exception and leave the digest as it was. */
    static void refused(String what, EyeStage stage, Class<? extends RuntimeException> due, LongSupplier call) {
        long before = stage.digest();
        String got = "no exception";
        try {
            got = "the answer " + call.getAsLong();
        } catch (RuntimeException e) {
            got = e.getClass().getName();
        }
        if (!got.equals(due.getName())) {
            tell(what + " gave " + got + ", due is " + due.getName());
        }
        same("digest after " + what, stage.digest(), before);
    }

    static void noIndex(String what, EyeStage stage, LongSupplier call) {
        refused(what, stage, IndexOutOfBoundsException.class, call);
    }

    static void badValue(String what, EyeStage stage, LongSupplier call) {
        refused(what, stage, IllegalArgumentException.class, call);
    }

    static void badState(String what, EyeStage stage, LongSupplier call) {
        refused(what, stage, IllegalStateException.class, call);
    }

    static void tell(String message) {
        wrong++;
        System.out.println(message);
    }

    static void end(String name) {
        System.out.println(name + ": " + (wrong == 0 ? "all as due" : wrong + " not as due"));
        if (wrong != 0) {
            System.exit(1);
        }
    }
}
