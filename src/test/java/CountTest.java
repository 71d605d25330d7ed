import java.util.function.Consumer;

/** Promise 14. */
public final class CountTest {
    private static final Check CHECK = new Check("CountTest");

    public static void main(String[] args) {
        tellsAll();
        whileDownInEachCall();
        whileDownADiskMayFail();
        aSpareThatIsNotLive();
        theCountOfJournals();
        thePowerThatWent();
        stepsOfAnOpeningToo();
        anotherWhat();
        CHECK.end();
    }

    private static void counts(String when, GrowingArray x, int... due) {
        for (int what = 0; what < due.length; what++) {
            CHECK.due(when + ": count(" + what + ")", x.count(what), due[what]);
        }
    }

    private static void tellsAll() {
        GrowingArray x = new GrowingArray(3, 4);
        counts("new", x, 3, 3, 3, 0, 8, 1, 0, -1, 0, 1, 0, 0, 0, 0, 4);
        x.write(3, 3);
        x.write(4, 4);
        counts("written", x, 3, 3, 3, 0, 8, 1, 0, -1, 0, 1, 2, 8, 0, 0, 4);
        x.add();
        counts("added", x, 4, 3, 3, 0, 8, 1, 0, -1, 0, 1, 2, 9, 0, 0, 4);
        x.grow();
        counts("growing", x, 4, 3, 4, 0, 8, 1, 1, -1, 0, 2, 2, 13, 0, 0, 4);
        x.step();
        counts("a step", x, 4, 3, 4, 1, 8, 1, 1, -1, 0, 3, 2, 25, 1, 0, 4);
        x.fail(1);
        counts("failed", x, 4, 3, 4, 1, 8, 1, 1, 1, 0, 3, 2, 25, 1, 0, 4);
        x.step();
        counts("a step without disk 1", x, 4, 3, 4, 2, 8, 1, 1, 1, 0, 4, 2, 34, 2, 0, 4);
        x.replace();
        counts("replaced", x, 4, 3, 4, 2, 8, 1, 1, 1, 0, 4, 2, 34, 2, 0, 4);
        x.rebuild();
        x.rebuild();
        counts("two rows rebuilt", x, 4, 3, 4, 2, 8, 1, 1, 1, 2, 4, 2, 36, 2, 0, 4);
        x.rebuild();
        x.rebuild();
        counts("all rows rebuilt", x, 4, 3, 4, 2, 8, 1, 1, -1, 0, 5, 2, 42, 2, 0, 4);
        x.step();
        x.step();
        counts("grown", x, 4, 4, 4, 0, 12, 1, 0, -1, 0, 7, 2, 58, 4, 0, 4);
    }

    /** What holds is told as at the call's beginning; what happened is told as it is. */
    private static void isToldAsItHeld(String call, GrowingArray x, int n, Consumer<GrowingArray> made) {
        String before = Samples.held(x);
        int writes = x.count(11);
        int begun = x.count(10);
        x.cut(n);
        made.accept(x);
        CHECK.isTrue(call + ": as it held", before.equals(Samples.held(x)));
        CHECK.due(call + ": count(5)", x.count(5), 0);
        CHECK.due(call + ": count(10)", x.count(10), call.equals("write()") ? begun + 1 : begun);
        CHECK.due(call + ": count(11)", x.count(11), writes + n);
        CHECK.due(call + ": count(13)", x.count(13), 1);
    }

    private static void whileDownInEachCall() {
        for (int n = 0; n < 4; n++) {
            isToldAsItHeld("write()", Samples.filled(3, 4), n, x -> x.write(0, 1));
        }
        isToldAsItHeld("add()", Samples.filled(3, 4), 0, x -> x.add());
        for (int n = 0; n < 4; n++) {
            GrowingArray spared = Samples.filled(3, 4);
            spared.add();
            isToldAsItHeld("grow()", spared, n, x -> x.grow());
        }
        for (int n = 0; n < 8; n++) {
            isToldAsItHeld("the last step()", Samples.growing(3, 4, 1, 3), n, x -> x.step());
            isToldAsItHeld("a critical step()", Samples.growing(3, 4, 1, 1), n, x -> x.step());
        }
        GrowingArray failed = Samples.filled(3, 4);
        failed.add();
        failed.fail(3);
        isToldAsItHeld("replace()", failed, 0, x -> x.replace());
        for (int n = 0; n < 4; n++) {
            GrowingArray half = Samples.filled(3, 4);
            half.fail(2);
            half.replace();
            for (int k = 0; k < 3; k++) {
                half.rebuild();
            }
            isToldAsItHeld("the last rebuild()", half, n, x -> x.rebuild());
            CHECK.due("the last rebuild(): count(8)", half.count(8), 3);
            CHECK.due("the last rebuild(): count(7)", half.count(7), 2);
        }
    }

    private static void whileDownADiskMayFail() {
        GrowingArray x = Samples.growing(3, 4, 1, 3);
        String before = Samples.held(x);
        x.cut(5);
        x.step();
        CHECK.due("count(7)", x.count(7), -1);
        x.fail(2);
        CHECK.due("count(7)", x.count(7), 2);
        CHECK.isTrue("as it held", before.equals(Samples.held(x)));
    }

    private static void aSpareThatIsNotLive() {
        GrowingArray x = Samples.filled(3, 4);
        x.add();
        x.fail(3);
        CHECK.due("count(7) of a spare", x.count(7), 3);
        x.replace();
        CHECK.due("count(7) of a spare replaced", x.count(7), -1);
    }

    private static void theCountOfJournals() {
        GrowingArray x = new GrowingArray(3, 4);
        CHECK.due("count(10) of none", x.count(10), 0);
        x.cut(0);
        x.write(0, 1);
        CHECK.due("count(10) of one that was not written", x.count(10), 1);
        CHECK.due("disk(0, 4)", x.disk(0, 4), 0);
        x.open();
        CHECK.due("count(10) behind the opening", x.count(10), 1);
        x.write(0, 1);
        CHECK.due("count(10) of the next", x.count(10), 2);
        CHECK.due("disk(0, 4)", x.disk(0, 4), 2);
        x.cut(0);
        x.write(0, 1);
        x.open();
        CHECK.due("count(10) behind one written again", x.count(10), 3);
    }

    private static void thePowerThatWent() {
        GrowingArray x = new GrowingArray(3, 4);
        for (int times = 1; times <= 20; times++) {
            x.cut(times % 3);
            if (times % 2 == 1) {
                x.write(0, 1);
            } else {
                x.open();
            }
            CHECK.due("count(13)", x.count(13), times);
            CHECK.due("count(5)", x.count(5), 0);
            if (times % 2 == 0) {
                x.open();
            }
            CHECK.due("count(13) stays", x.count(13), times);
        }
    }

    private static void stepsOfAnOpeningToo() {
        GrowingArray x = Samples.growing(3, 6, 1, 1);
        x.cut(1);
        x.step();
        x.open();
        CHECK.due("count(12) with one from its backup", x.count(12), 2);
        x.cut(0);
        x.step();
        x.open();
        CHECK.due("count(12) with one that is not critical", x.count(12), 3);
        x.step();
        CHECK.due("count(12)", x.count(12), 4);
    }

    private static void anotherWhat() {
        GrowingArray x = new GrowingArray(3, 4);
        GrowingArray down = Samples.down(3, 4);
        int[] wrong = {-1, -2, 15, 16, Integer.MIN_VALUE, Integer.MAX_VALUE};
        for (int what : wrong) {
            CHECK.due("count(" + what + ")", x.count(what), -1);
            CHECK.due("count(" + what + ") while down", down.count(what), -1);
        }
    }
}
