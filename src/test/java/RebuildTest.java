/** Promise 9. */
public final class RebuildTest {
    private static final Check CHECK = new Check("RebuildTest");

    public static void main(String[] args) {
        for (int out = 0; out < 5; out++) {
            rebuildsEveryRow(Samples.filled(5, 7), out, 28);
            rebuildsEveryRow(Samples.filled(5, 2), out, 8);
        }
        for (int steps = 0; steps < 6; steps++) {
            for (int out = 0; out < 5; out++) {
                rebuildsEveryRow(Samples.growing(3, 6, 2, steps), out, 12);
            }
        }
        writesARowThatTheDiskHasNoBlockOf();
        beginsAgainIfThePowerWentInAnyCall();
        beginsAgainOverAnOpeningThatFailed();
        for (int disk = 0; disk < 4; disk++) {
            theLastRowAtEachWrite(disk);
        }
        saysNoneIfNoneIsRebuilding();
        refusesWhileDown();
        CHECK.end();
    }

    private static GrowingArray rebuilding(GrowingArray x, int d, int rows) {
        x.fail(d);
        x.replace();
        for (int k = 0; k < rows; k++) {
            x.rebuild();
        }
        return x;
    }

    private static void rebuildsEveryRow(GrowingArray x, int out, int places) {
        x.fail(out);
        x.replace();
        int rows = x.count(14);
        int sequence = x.count(9);
        int before = x.count(11);
        for (int row = 0; row < rows; row++) {
            CHECK.due("count(8)", x.count(8), row);
            CHECK.due("rebuild()", x.rebuild(), row + 1 < rows ? 1 : 2);
            boolean last = row + 1 == rows;
            CHECK.due("disk(" + out + ", 0)", x.disk(out, 0), last ? 0 : 2);
            CHECK.due("disk(" + out + ", 2)", x.disk(out, 2), last ? row + 2 : row + 1);
            CHECK.due("count(9)", x.count(9), last ? sequence + 1 : sequence);
            CHECK.due("astray()", x.astray(), last ? 0 : -1);
            CHECK.due("sum()", x.sum(), Samples.sumOfValues(places));
        }
        CHECK.due("writes", x.count(11), before + rows + x.count(0));
        for (int d = 0; d < x.count(0); d++) {
            CHECK.due("disk(" + d + ", 3)", x.disk(d, 3), sequence + 1);
        }
        CHECK.due("count(7) once it is live", x.count(7), -1);
        CHECK.due("count(8) once it is live", x.count(8), 0);
        CHECK.leaves("rebuild() once it is live", x, x::rebuild, -1);
        x.fail((out + 1) % x.count(2));
        CHECK.due("sum() without another one", x.sum(), Samples.sumOfValues(places));
    }

    /** ROWS from FRONT on have none on the disks that come; 0 is written there all the same. */
    private static void writesARowThatTheDiskHasNoBlockOf() {
        GrowingArray x = rebuilding(Samples.growing(3, 4, 1, 2), 3, 0);
        for (int row = 0; row < 3; row++) {
            CHECK.due("rebuild()", x.rebuild(), 1);
            CHECK.due("disk(3, 2)", x.disk(3, 2), row + 1);
        }
        CHECK.due("rebuild()", x.rebuild(), 2);
        CHECK.due("disk(3, 2)", x.disk(3, 2), 5);
        CHECK.due("astray()", x.astray(), 0);
        CHECK.due("sum()", x.sum(), Samples.sumOfValues(8));
    }

    private static void isAtRowZeroAgain(String when, GrowingArray x, int d) {
        CHECK.due(when + ": count(8) while down", x.count(8), 2);
        CHECK.due(when + ": disk(" + d + ", 0) while down", x.disk(d, 0), 2);
        x.open();
        CHECK.due(when + ": count(8)", x.count(8), 0);
        CHECK.due(when + ": disk(" + d + ", 0)", x.disk(d, 0), 2);
        for (int row = 0; row < 5; row++) {
            CHECK.due(when + ": rebuild()", x.rebuild(), row < 4 ? 1 : 2);
        }
        CHECK.due(when + ": astray()", x.astray(), 0);
        CHECK.due(when + ": sum()", x.sum(), Samples.sumOfValues(15));
    }

    private static void beginsAgainIfThePowerWentInAnyCall() {
        for (int d = 0; d < 4; d++) {
            GrowingArray x = rebuilding(Samples.filled(4, 5), d, 2);
            x.cut(0);
            CHECK.due("rebuild() as the power goes", x.rebuild(), 0);
            isAtRowZeroAgain("in rebuild()", x, d);
            GrowingArray writing = rebuilding(Samples.filled(4, 5), d, 2);
            writing.cut(0);
            writing.write(0, 1);
            isAtRowZeroAgain("in write()", writing, d);
            GrowingArray adding = rebuilding(Samples.filled(4, 5), d, 2);
            adding.cut(0);
            adding.add();
            isAtRowZeroAgain("in add()", adding, d);
        }
    }

    private static void beginsAgainOverAnOpeningThatFailed() {
        GrowingArray x = rebuilding(Samples.filled(4, 5), 2, 2);
        x.cut(0);
        x.rebuild();
        x.cut(0);
        CHECK.due("open() as the power goes", x.open(), 0);
        CHECK.due("count(8) as the opening found it", x.count(8), 0);
        CHECK.due("disk(2, 0) as the opening found it", x.disk(2, 0), 2);
        x.open();
        CHECK.due("count(8)", x.count(8), 0);
        CHECK.due("count(7)", x.count(7), 2);
    }

    /** With the last row a block and four SUPERS are written; that of the new disk in its turn. */
    private static void theLastRowAtEachWrite(int d) {
        for (int n = 0; n <= 5; n++) {
            String when = "disk " + d + " at cut " + n + ": ";
            GrowingArray x = rebuilding(Samples.filled(4, 3), d, 2);
            String held = Samples.held(x);
            int before = x.count(11);
            x.cut(n);
            CHECK.due(when + "rebuild()", x.rebuild(), n < 5 ? 0 : 2);
            CHECK.due(when + "count(11)", x.count(11), before + n);
            CHECK.due(when + "count(9)", x.count(9), n < 5 ? 1 : 2);
            CHECK.due(when + "told as it held", held.equals(Samples.held(x)), n < 5);
            boolean live = n >= d + 2;
            CHECK.due(when + "disk(" + d + ", 3)", x.disk(d, 3), live ? 2 : 0);
            x.cut(-1);
            CHECK.due(when + "open()", x.open(), n == 5 ? -1 : n < 2 ? 3 : 1);
            CHECK.due(when + "disk(" + d + ", 0)", x.disk(d, 0), live ? 0 : 2);
            CHECK.due(when + "count(7)", x.count(7), live ? -1 : d);
            CHECK.due(when + "count(8)", x.count(8), 0);
            CHECK.due(when + "count(9)", x.count(9), n < 2 || n == 5 ? 2 : 3);
            CHECK.due(when + "astray()", x.astray(), live ? 0 : -1);
            CHECK.due(when + "sum()", x.sum(), Samples.sumOfValues(9));
        }
    }

    private static void saysNoneIfNoneIsRebuilding() {
        GrowingArray x = Samples.filled(3, 4);
        CHECK.leaves("rebuild() with all live", x, x::rebuild, -1);
        x.cut(0);
        CHECK.leaves("rebuild() with all live, no write left", x, x::rebuild, -1);
        x.fail(0);
        CHECK.leaves("rebuild() with one failed", x, x::rebuild, -1);
        x.cut(-1);
        x.replace();
        CHECK.due("rebuild()", x.rebuild(), 1);

        GrowingArray spared = Samples.filled(3, 4);
        spared.add();
        spared.fail(3);
        CHECK.leaves("rebuild() with a spare failed", spared, spared::rebuild, -1);
        spared.replace();
        CHECK.leaves("rebuild() with a spare replaced", spared, spared::rebuild, -1);
    }

    private static void refusesWhileDown() {
        GrowingArray x = Samples.down(3, 4);
        CHECK.refuses("rebuild() while down", IllegalStateException.class, x, x::rebuild);
        GrowingArray half = rebuilding(Samples.filled(3, 4), 1, 2);
        half.cut(0);
        half.rebuild();
        CHECK.refuses("rebuild() while down, half done", IllegalStateException.class, half, half::rebuild);
    }
}
