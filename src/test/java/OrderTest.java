import java.util.function.Consumer;
import java.util.function.Supplier;

/** Term 2: which disks a call writes to, one write after the other. */
public final class OrderTest {
    private static final Check CHECK = new Check("OrderTest");

    public static void main(String[] args) {
        Supplier<GrowingArray> four = () -> Samples.filled(4, 4);
        order("write(0)", four, x -> x.write(0, 1), 0, 1, 0, 3);
        order("write(7), parity below", four, x -> x.write(7, 1), 0, 1, 3, 1);
        order("write(7) without disk 1", () -> without(four, 1), x -> x.write(7, 1), 0, 2, 3);
        order("write(7) without disk 3", () -> without(four, 3), x -> x.write(7, 1), 0, 1, 1);

        Supplier<GrowingArray> spared = () -> spared(four);
        order("add()", four, x -> x.add(), 4);
        order("replace() of a spare", () -> without(spared, 4), x -> x.replace(), 4);
        order("grow()", spared, x -> x.grow(), 0, 1, 2, 3, 4);
        order("grow() without disk 2", () -> without(spared, 2), x -> x.grow(), 0, 1, 3, 4);

        Supplier<GrowingArray> growing = () -> spared(() -> Samples.growing(3, 4, 1, 0));
        order("a critical step()", growing, x -> x.step(), 0, 1, 2, 3, 4, 0, 1, 2, 3, 0, 1, 2, 3, 4);
        order("it without disk 1", () -> without(growing, 1), x -> x.step(), 0, 2, 3, 4, 0, 2, 3, 0, 2, 3, 4);
        order("a step()", () -> Samples.growing(3, 4, 1, 2), x -> x.step(), 0, 1, 2, 3, 0, 1, 2, 3);

        order("rebuild()", () -> rebuilding(four, 1, 0), x -> x.rebuild(), 1);
        order("the last rebuild()", () -> rebuilding(spared, 1, 3), x -> x.rebuild(), 1, 0, 1, 2, 3, 4);
        order("a write to a rebuilt row", () -> rebuilding(four, 1, 1), x -> x.write(1, 1), 0, 2, 1, 3);

        order("open()", () -> cut(spared, 0, x -> x.grow()), x -> x.open(), 0, 1, 3, 0, 0, 1, 2, 3, 4);
        order("open() that levels", () -> cut(spared, 2, x -> x.grow()), x -> x.open(), 2, 3, 4, 0, 1, 2, 3, 4);
        order("open() with a backup", () -> cut(growing, 7, x -> x.step()), x -> x.open(),
            0, 1, 2, 3, 4, 0, 1, 2, 3, 0, 1, 2, 3, 4);
        CHECK.end();
    }

    private static GrowingArray without(Supplier<GrowingArray> made, int d) {
        GrowingArray x = made.get();
        x.fail(d);
        return x;
    }

    private static GrowingArray spared(Supplier<GrowingArray> made) {
        GrowingArray x = made.get();
        x.add();
        return x;
    }

    private static GrowingArray rebuilding(Supplier<GrowingArray> made, int d, int rows) {
        GrowingArray x = without(made, d);
        x.replace();
        for (int k = 0; k < rows; k++) {
            x.rebuild();
        }
        return x;
    }

    private static GrowingArray cut(Supplier<GrowingArray> made, int n, Consumer<GrowingArray> call) {
        GrowingArray x = made.get();
        x.cut(n);
        call.accept(x);
        return x;
    }

    /** Cut one write later each time, the call shows which disk took that one. */
    private static void order(String call, Supplier<GrowingArray> made, Consumer<GrowingArray> play, int... due) {
        for (int n = 0; n < due.length; n++) {
            GrowingArray less = cut(made, n, play);
            GrowingArray more = cut(made, n + 1, play);
            CHECK.due(call + ": power went at write " + n, less.count(5), 0);
            CHECK.due(call + ": writes in all", more.count(11) - less.count(11), 1);
            CHECK.due(call + ": the disk of write " + n, diskWritten(call, less, more), due[n]);
        }
        CHECK.due(call + ": it ends with that", cut(made, due.length, play).count(5), 1);
    }

    private static int diskWritten(String call, GrowingArray less, GrowingArray more) {
        int found = -1;
        for (int d = 0; d < more.count(0); d++) {
            boolean renewed = call.startsWith("replace") && more.disk(d, 0) != less.disk(d, 0);
            if (Math.max(0, more.disk(d, 2)) != Math.max(0, less.disk(d, 2)) || renewed) {
                found = found < 0 ? d : 99;
            }
        }
        return found;
    }
}
