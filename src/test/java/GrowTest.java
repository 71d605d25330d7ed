/** Promise 5. */
public final class GrowTest {
    private static final Check CHECK = new Check("GrowTest");

    public static void main(String[] args) {
        beginsOverAllSpares();
        saysNone();
        growsOverASpareThatFailed();
        overPower();
        GrowingArray down = Samples.down(3, 4);
        CHECK.thrown("grow() while down", IllegalStateException.class, down::grow);
        CHECK.end();
    }

    private static void beginsOverAllSpares() {
        GrowingArray x = Samples.filled(3, 4);
        x.add();
        x.add();
        int before = x.count(11);
        CHECK.due("grow()", x.grow(), 5);
        int[] whats = {1, 2, 3, 4, 6, 9};
        int[] due = {3, 5, 0, 8, 1, 2};
        for (int k = 0; k < whats.length; k++) {
            CHECK.due("count(" + whats[k] + ")", x.count(whats[k]), due[k]);
        }
        CHECK.due("writes", x.count(11), before + 5);
        for (int d = 0; d < 5; d++) {
            CHECK.due("disk(" + d + ", 3)", x.disk(d, 3), 2);
            CHECK.due("disk(" + d + ", 1)", x.disk(d, 1), 0);
        }
        CHECK.due("sum()", x.sum(), Samples.sumOfValues(8));
    }

    private static void saysNone() {
        GrowingArray x = Samples.filled(3, 4);
        CHECK.due("grow() without a spare", x.grow(), -1);
        x.add();
        x.fail(0);
        x.replace();
        CHECK.due("grow() while rebuilding", x.grow(), -1);
        while (x.rebuild() == 1) {
            CHECK.due("grow() while rebuilding", x.grow(), -1);
        }
        CHECK.due("grow()", x.grow(), 4);
        x.add();
        CHECK.due("grow() while reshaped", x.grow(), -1);
        CHECK.due("count(2)", x.count(2), 4);
        while (x.step() == 1) {
            CHECK.due("grow() while reshaped", x.grow(), -1);
        }
        CHECK.due("grow() once more", x.grow(), 5);
    }

    private static void growsOverASpareThatFailed() {
        GrowingArray x = Samples.filled(3, 4);
        x.add();
        x.fail(3);
        CHECK.due("grow() with a spare failed", x.grow(), 4);
        CHECK.due("disk(3, 1)", x.disk(3, 1), 0);
        CHECK.due("astray() with a disk out", x.astray(), -1);
        while (x.step() == 1) {
            CHECK.due("sum()", x.sum(), Samples.sumOfValues(8));
        }
        CHECK.due("sum() behind it", x.sum(), Samples.sumOfGrown(8, 12));
        x.replace();
        CHECK.due("disk(3, 0)", x.disk(3, 0), 2);
        while (x.rebuild() == 1) {
            CHECK.due("sum()", x.sum(), Samples.sumOfGrown(8, 12));
        }
        CHECK.due("astray()", x.astray(), 0);
    }

    private static void overPower() {
        for (int n = 0; n < 5; n++) {
            GrowingArray x = Samples.filled(4, 3);
            x.add();
            x.cut(n);
            CHECK.due("grow() at cut " + n, x.grow(), 0);
            CHECK.due("count(6) while down", x.count(6), 0);
            CHECK.due("count(9) while down", x.count(9), 1);
            CHECK.due("disk(4, 1) while down", x.disk(4, 1), 1);
            // With the first SUPER the reshaping has begun, and its first row is CRITICAL.
            CHECK.due("open() at cut " + n, x.open(), n == 0 ? 3 : 1);
            CHECK.due("count(6)", x.count(6), n == 0 ? 0 : 1);
            CHECK.due("count(9)", x.count(9), n == 0 ? 2 : 3);
            CHECK.due("count(3)", x.count(3), 0);
        }
    }
}
