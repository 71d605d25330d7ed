import java.util.ArrayList;
import java.util.List;
import java.util.function.Predicate;
import java.util.function.Supplier;

/** Terms 2 and 3: power goes at every write of every call, then again while opening, and a disk fails. */
public final class PowerTest {
    private static final Check CHECK = new Check("PowerTest");
    private static final int UNCUT = 1000;

    /** A state with so many places filled, and a call in which the power goes (true: it stayed). */
    private record Scene(int filled, Supplier<GrowingArray> maker, Predicate<GrowingArray> call) {
        long sumDue(GrowingArray x) {
            return Samples.sumOfGrown(filled, x.count(4));
        }
    }

    public static void main(String[] args) {
        for (Scene scene : scenes()) {
            int n = 0;
            while (n < UNCUT && !endsUncutAt(scene, n)) {
                n++;
            }
            CHECK.isTrue("every scene has its writes", n > 0 && n < UNCUT);
        }
        CHECK.end();
    }

    private static List<Scene> scenes() {
        List<Scene> all = new ArrayList<>();
        all.add(new Scene(9, () -> Samples.filled(4, 3), x -> x.write(4, Samples.valueAt(4))));
        all.add(new Scene(9, () -> Samples.filled(4, 3), x -> x.add() > 0));
        all.add(new Scene(9, () -> spared(Samples.filled(4, 3)), x -> x.grow() > 0));
        all.add(new Scene(9, () -> without(spared(Samples.filled(4, 3)), 4), x -> x.replace()));
        all.add(new Scene(9, () -> without(spared(Samples.filled(4, 3)), 4), x -> x.grow() > 0));
        for (int steps = 0; steps < 5; steps++) {
            int done = steps;
            all.add(new Scene(10, () -> Samples.growing(3, 5, 1, done), x -> x.step() > 0));
            all.add(new Scene(10, () -> Samples.growing(3, 5, 3, done), x -> x.step() > 0));
            all.add(new Scene(10, () -> spared(Samples.growing(3, 5, 1, done)), x -> x.step() > 0));
            all.add(new Scene(10, () -> Samples.growing(3, 5, 2, done), x -> x.write(5, Samples.valueAt(5))));
            all.add(new Scene(10, () -> journalAheadOfStep(done), x -> x.step() > 0));
            all.add(new Scene(15, () -> without(Samples.growing(4, 5, 2, done), 1), x -> x.step() > 0));
            all.add(new Scene(10, () -> rebuilding(Samples.growing(3, 5, 1, done), 3, 4), x -> x.rebuild() > 0));
            all.add(new Scene(10, () -> rebuilding(Samples.growing(3, 5, 1, done), 0, 4), x -> x.rebuild() > 0));
        }
        return all;
    }

    private static GrowingArray spared(GrowingArray x) {
        x.add();
        return x;
    }

    private static GrowingArray without(GrowingArray x, int d) {
        x.fail(d);
        return x;
    }

    private static GrowingArray rebuilding(GrowingArray x, int d, int rows) {
        x.fail(d);
        x.replace();
        for (int k = 0; k < rows; k++) {
            x.rebuild();
        }
        return x;
    }

    private static GrowingArray journalAheadOfStep(int steps) {
        GrowingArray x = Samples.growing(3, 5, 2, steps);
        int a = Math.min(9, steps * 4);
        x.write(a, Samples.valueAt(a));
        return x;
    }

    private static boolean endsUncutAt(Scene scene, int n) {
        GrowingArray probe = scene.maker().get();
        String held = Samples.held(probe);
        int before = probe.count(11);
        probe.cut(n);
        if (scene.call().test(probe)) {
            return true;
        }
        CHECK.due("writes made at cut " + n, probe.count(11), before + n);
        CHECK.due("count(5) at cut " + n, probe.count(5), 0);
        CHECK.due("count(13) at cut " + n, probe.count(13), 1);
        CHECK.isTrue("told as it held at cut " + n, held.equals(Samples.held(probe)));
        for (int fails = -1; fails < probe.count(0); fails++) {
            int again = 0;
            while (again < UNCUT && !opensUncutAt(scene, n, fails, again)) {
                again++;
            }
            CHECK.isTrue("an opening ends", again < UNCUT);
        }
        return false;
    }

    private static boolean opensUncutAt(Scene scene, int n, int fails, int again) {
        GrowingArray x = scene.maker().get();
        x.cut(n);
        scene.call().test(x);
        x.fail(fails);
        x.cut(again);
        boolean opened = x.open() > 0;
        x.cut(-1);
        if (!opened) {
            CHECK.due("still down", x.count(5), 0);
            if (fails < 0) {
                x.fail(again % x.count(0));
            }
            CHECK.isTrue("opened at last", x.open() > 0);
        }
        isSound("cut " + n + ", disk " + fails + " failing, cut again " + again, scene, x);
        return opened;
    }

    /** Every value is there, also once the array is whole again, has grown, and lacks another disk. */
    private static void isSound(String when, Scene scene, GrowingArray x) {
        int out = x.count(7);
        long sum = scene.sumDue(x);
        CHECK.due(when + ": sum()", x.sum(), sum);
        CHECK.due(when + ": astray()", x.astray(), out >= 0 && x.disk(out, 1) == 0 ? -1 : 0);
        x.replace();
        for (int k = 0; k < 48 && x.rebuild() == 1; k++) {
            CHECK.due(when + ": sum() while rebuilding", x.sum(), sum);
        }
        CHECK.due(when + ": whole again", x.count(7), -1);
        CHECK.due(when + ": astray() behind it", x.astray(), 0);
        for (int k = 0; k < 48 && x.step() == 1; k++) {
            CHECK.due(when + ": sum() while growing", x.sum(), sum);
        }
        CHECK.due(when + ": sum() at the end", x.sum(), scene.sumDue(x));
        CHECK.due(when + ": astray() at the end", x.astray(), 0);
        x.fail((out + 1) % x.count(0));
        CHECK.due(when + ": sum() without another disk", x.sum(), scene.sumDue(x));
    }
}
