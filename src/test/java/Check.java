import java.util.function.LongSupplier;

/** Compares answers with those that are due, and ends the test with 1 if one was wrong. */
final class Check {
    private final String test;
    private int asked;
    private int wrong;

    Check(String test) {
        this.test = test;
    }

    void due(String call, long got, long want) {
        asked++;
        if (got != want) {
            wrong++;
            System.out.println(test + ": " + call + " answered " + got + ", due is " + want);
        }
    }

    void due(String call, boolean got, boolean want) {
        due(call, got ? 1 : 0, want ? 1 : 0);
    }

    void isTrue(String what, boolean got) {
        due(what, got, true);
    }

    /** The class itself is due, so that one below it does not pass. */
    void thrown(String call, Class<? extends RuntimeException> want, Runnable made) {
        Class<?> got = null;
        try {
            made.run();
        } catch (RuntimeException e) {
            got = e.getClass();
        }
        asked++;
        if (got != want) {
            wrong++;
            System.out.println(test + ": " + call + " threw " + got + ", due is " + want);
        }
    }

    /** What the face told before (Samples.all) it tells still. */
    void stays(String call, GrowingArray x, String before) {
        isTrue(call + " changes nothing", before.equals(Samples.all(x)));
    }

    /** It answers that, and nothing that the face tells is another behind it. */
    void leaves(String call, GrowingArray x, LongSupplier made, long want) {
        String before = Samples.all(x);
        due(call, made.getAsLong(), want);
        stays(call, x, before);
    }

    /** It throws that, and nothing that the face tells is another behind it. */
    void refuses(String call, Class<? extends RuntimeException> want, GrowingArray x, Runnable made) {
        String before = Samples.all(x);
        thrown(call, want, made);
        stays(call, x, before);
    }

    void end() {
        System.out.println(test + ": " + asked + " answers looked at, " + wrong + " wrong");
        if (wrong != 0 || asked == 0) {
            System.exit(1);
        }
    }
}
