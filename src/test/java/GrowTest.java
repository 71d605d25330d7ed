/** Promise 5. */
public final class GrowTest {
    private static final Check CHECK = new Check("GrowTest");

    public static void main(String[] args) {
        for (int disks = 3; disks <= 7; disks++) {
            for (int spares = 1; disks + spares <= 10; spares++) {
                beginsOverAllSpares(disks, spares);
            }
        }
        saysNoneWithoutASpare();
        saysNoneIfReshapedAlready();
        saysNoneWhileRebuilding();
        goesOnWithADiskFailed();
        growsOverASpareThatFailed();
        tellsAsItHeldAtEachWrite();
        refusesWhileDown();
        CHECK.end();
    }

    private static void beginsOverAllSpares(int disks, int spares) {
        String of = disks + " + " + spares + " disks: ";
        int m = disks + spares;
        GrowingArray x = Samples.filled(disks, 4);
        for (int k = 0; k < spares; k++) {
            x.add();
        }
        int before = x.count(11);
        CHECK.due(of + "grow()", x.grow(), m);
        int[] whats = {0, 1, 2, 3, 4, 6, 9};
        int[] due = {m, disks, m, 0, 4 * (disks - 1), 1, 2};
        for (int k = 0; k < whats.length; k++) {
            CHECK.due(of + "count(" + whats[k] + ")", x.count(whats[k]), due[k]);
        }
        CHECK.due(of + "writes", x.count(11), before + m);
        for (int d = 0; d < m; d++) {
            CHECK.due(of + "disk(" + d + ", 3)", x.disk(d, 3), 2);
            CHECK.due(of + "disk(" + d + ", 1)", x.disk(d, 1), 0);
        }
        CHECK.due(of + "sum()", x.sum(), Samples.sumOfValues(4 * (disks - 1)));
    }

    private static void saysNoneWithoutASpare() {
        GrowingArray x = Samples.filled(3, 4);
        CHECK.leaves("grow() without a spare", x, x::grow, -1);
        x.cut(0);
        CHECK.leaves("grow() without a spare or a write left", x, x::grow, -1);
        x.cut(-1);
        x.fail(1);
        CHECK.leaves("grow() with a disk failed, without a spare", x, x::grow, -1);
        GrowingArray grown = Samples.growing(3, 4, 7, 4);
        CHECK.due("count(1)", grown.count(1), 10);
        CHECK.leaves("grow() of ten", grown, grown::grow, -1);
    }

    private static void saysNoneIfReshapedAlready() {
        GrowingArray x = Samples.growing(3, 4, 1, 0);
        CHECK.leaves("grow() while reshaped, no spare", x, x::grow, -1);
        x.add();
        CHECK.leaves("grow() while reshaped", x, x::grow, -1);
        x.cut(0);
        CHECK.leaves("grow() while reshaped, no write left", x, x::grow, -1);
        x.cut(-1);
        while (x.step() == 1) {
            CHECK.due("grow() while reshaped", x.grow(), -1);
        }
        CHECK.due("grow() once that has ended", x.grow(), 5);
        CHECK.due("count(1)", x.count(1), 4);
    }

    private static void saysNoneWhileRebuilding() {
        GrowingArray x = Samples.filled(3, 4);
        x.add();
        x.fail(0);
        x.replace();
        CHECK.leaves("grow() while rebuilding", x, x::grow, -1);
        x.cut(0);
        CHECK.leaves("grow() while rebuilding, no write left", x, x::grow, -1);
        x.cut(-1);
        while (x.rebuild() == 1) {
            CHECK.due("grow() while rebuilding", x.grow(), -1);
        }
        CHECK.due("grow() once it is rebuilt", x.grow(), 4);
    }

    private static void goesOnWithADiskFailed() {
        for (int out = 0; out < 3; out++) {
            GrowingArray x = Samples.filled(3, 4);
            x.add();
            x.fail(out);
            int before = x.count(11);
            CHECK.due("grow() without disk " + out, x.grow(), 4);
            CHECK.due("writes without disk " + out, x.count(11), before + 3);
            CHECK.due("sum() without disk " + out, x.sum(), Samples.sumOfValues(8));
        }
    }

    private static void growsOverASpareThatFailed() {
        GrowingArray x = Samples.filled(3, 4);
        x.add();
        x.fail(3);
        CHECK.due("grow() with a spare failed", x.grow(), 4);
        CHECK.due("disk(3, 1)", x.disk(3, 1), 0);
        CHECK.due("astray() with a disk out", x.astray(), -1);
        while (x.step() == 1) {
            CHECK.due("sum()", x.sum(), Samples.sumOfValues(8));
        }
        CHECK.due("sum() behind it", x.sum(), Samples.sumOfGrown(8, 12));
        x.replace();
        CHECK.due("disk(3, 0)", x.disk(3, 0), 2);
        while (x.rebuild() == 1) {
            CHECK.due("sum()", x.sum(), Samples.sumOfGrown(8, 12));
        }
        CHECK.due("astray()", x.astray(), 0);
    }

    private static void tellsAsItHeldAtEachWrite() {
        for (int n = 0; n < 6; n++) {
            GrowingArray x = Samples.filled(4, 3);
            x.add();
            x.add();
            String before = Samples.held(x);
            x.cut(n);
            CHECK.due("grow() at cut " + n, x.grow(), 0);
            CHECK.isTrue("told as it held at cut " + n, before.equals(Samples.held(x)));
            CHECK.due("count(5) at cut " + n, x.count(5), 0);
            CHECK.due("count(6) while down", x.count(6), 0);
            CHECK.due("count(9) while down", x.count(9), 1);
            CHECK.due("disk(4, 1) while down", x.disk(4, 1), 1);
            // With the first SUPER the reshaping has begun, and its first row is CRITICAL.
            CHECK.due("open() at cut " + n, x.open(), n == 0 ? 3 : 1);
            CHECK.due("count(2)", x.count(2), n == 0 ? 4 : 6);
            CHECK.due("count(6)", x.count(6), n == 0 ? 0 : 1);
            CHECK.due("count(9)", x.count(9), n == 0 ? 2 : 3);
            CHECK.due("count(3)", x.count(3), 0);
            CHECK.due("disk(4, 1)", x.disk(4, 1), n == 0 ? 1 : 0);
            CHECK.due("grow() again", x.grow(), n == 0 ? 6 : -1);
        }
        GrowingArray x = Samples.filled(4, 3);
        x.add();
        x.cut(5);
        CHECK.due("grow() of just so many writes", x.grow(), 5);
    }

    private static void refusesWhileDown() {
        GrowingArray x = Samples.down(3, 4);
        CHECK.refuses("grow() while down, no spare", IllegalStateException.class, x, x::grow);
        GrowingArray spared = Samples.filled(3, 4);
        spared.add();
        spared.cut(0);
        spared.write(0, 1);
        CHECK.refuses("grow() while down", IllegalStateException.class, spared, spared::grow);
    }
}
