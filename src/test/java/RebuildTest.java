/** Promise 9. */
public final class RebuildTest {
    private static final Check CHECK = new Check("RebuildTest");

    public static void main(String[] args) {
        for (int out = 0; out < 5; out++) {
            rebuildsEveryRow(Samples.filled(5, 7), out, 28);
        }
        for (int steps = 0; steps < 6; steps++) {
            for (int out = 0; out < 5; out++) {
                rebuildsEveryRow(Samples.growing(3, 6, 2, steps), out, 12);
            }
        }
        beginsAgainOverPower();
        isLiveWithItsSuper();
        saysNone();
        GrowingArray down = Samples.down(3, 4);
        CHECK.thrown("rebuild() while down", IllegalStateException.class, down::rebuild);
        CHECK.end();
    }

    private static void rebuildsEveryRow(GrowingArray x, int out, int places) {
        x.fail(out);
        x.replace();
        int rows = x.count(14);
        int sequence = x.count(9);
        int before = x.count(11);
        for (int row = 0; row < rows; row++) {
            CHECK.due("count(8)", x.count(8), row);
            CHECK.due("rebuild()", x.rebuild(), row + 1 < rows ? 1 : 2);
            boolean last = row + 1 == rows;
            CHECK.due("disk(" + out + ", 0)", x.disk(out, 0), last ? 0 : 2);
            CHECK.due("count(9)", x.count(9), last ? sequence + 1 : sequence);
            CHECK.due("astray()", x.astray(), last ? 0 : -1);
        }
        CHECK.due("writes", x.count(11), before + rows + x.count(0));
        CHECK.due("disk(" + out + ", 2)", x.disk(out, 2), rows + 1);
        for (int d = 0; d < x.count(0); d++) {
            CHECK.due("disk(" + d + ", 3)", x.disk(d, 3), sequence + 1);
        }
        CHECK.due("count(8) once it is live", x.count(8), 0);
        CHECK.due("sum()", x.sum(), Samples.sumOfValues(places));
        x.fail((out + 1) % x.count(2));
        CHECK.due("sum() without another one", x.sum(), Samples.sumOfValues(places));
    }

    private static void beginsAgainOverPower() {
        GrowingArray x = Samples.filled(4, 5);
        x.fail(2);
        x.replace();
        x.rebuild();
        x.rebuild();
        x.cut(0);
        CHECK.due("rebuild() as the power goes", x.rebuild(), 0);
        CHECK.due("count(8) while down", x.count(8), 2);
        CHECK.due("disk(2, 0) while down", x.disk(2, 0), 2);
        x.cut(0);
        CHECK.due("open() as the power goes", x.open(), 0);
        CHECK.due("count(8) as the opening found it", x.count(8), 0);
        x.open();
        CHECK.due("count(8)", x.count(8), 0);
        CHECK.due("disk(2, 0)", x.disk(2, 0), 2);
        for (int row = 0; row < 5; row++) {
            CHECK.due("rebuild()", x.rebuild(), row < 4 ? 1 : 2);
        }
        CHECK.due("astray()", x.astray(), 0);
        CHECK.due("sum()", x.sum(), Samples.sumOfValues(15));
    }

    /** With the last row there are a block and four SUPERS to write; that of disk 2 is the third. */
    private static void isLiveWithItsSuper() {
        for (int n = 0; n < 5; n++) {
            GrowingArray x = Samples.filled(4, 3);
            x.fail(2);
            x.replace();
            x.rebuild();
            x.rebuild();
            x.cut(n);
            CHECK.due("last rebuild() at cut " + n, x.rebuild(), 0);
            CHECK.due("count(9) while down", x.count(9), 1);
            CHECK.due("open() at cut " + n, x.open(), n < 2 ? 3 : 1);
            CHECK.due("disk(2, 0) at cut " + n, x.disk(2, 0), n < 4 ? 2 : 0);
            CHECK.due("count(9) at cut " + n, x.count(9), n < 2 ? 2 : 3);
            CHECK.due("astray() at cut " + n, x.astray(), n < 4 ? -1 : 0);
            CHECK.due("sum() at cut " + n, x.sum(), Samples.sumOfValues(9));
        }
    }

    private static void saysNone() {
        GrowingArray x = Samples.filled(3, 4);
        CHECK.due("rebuild() with all live", x.rebuild(), -1);
        x.fail(0);
        CHECK.due("rebuild() with one failed", x.rebuild(), -1);
        x.replace();
        CHECK.due("rebuild()", x.rebuild(), 1);
    }
}
