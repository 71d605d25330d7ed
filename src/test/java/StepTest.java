/** Promise 6. */
public final class StepTest {
    private static final Check CHECK = new Check("StepTest");

    public static void main(String[] args) {
        for (int disks = 3; disks <= 7; disks++) {
            for (int spares = 1; disks + spares <= 10; spares++) {
                movesEveryRow(disks, 2, spares);
                movesEveryRow(disks, 11, spares);
            }
        }
        theFirstRow();
        theLastRow();
        isCriticalBelowTheBoundAlone();
        backsUpCriticalRowsAlone();
        backsUpToSparesToo();
        skipsTheDiskThatIsOut();
        saysNoneIfNotReshaped();
        saysNoneWhileRebuilding();
        tellsAsItHeldAtEachWrite();
        refusesWhileDown();
        CHECK.end();
    }

    private static void movesEveryRow(int disks, int rows, int spares) {
        GrowingArray x = Samples.growing(disks, rows, spares, 0);
        int places = rows * (disks - 1);
        int m = disks + spares;
        String of = disks + " + " + spares + " disks, " + rows + " rows: ";
        for (int row = 0; row < rows; row++) {
            int before = x.count(11);
            boolean critical = row * spares < disks - 1;
            CHECK.due(of + "step()", x.step(), row + 1 < rows ? 1 : 2);
            CHECK.due(of + "writes", x.count(11), before + (critical ? 3 : 2) * m);
            CHECK.due(of + "count(3)", x.count(3), (row + 1) % rows);
            CHECK.due(of + "count(9)", x.count(9), row + 3);
            CHECK.due(of + "count(12)", x.count(12), row + 1);
            CHECK.due(of + "astray()", x.astray(), 0);
            CHECK.due(of + "sum()", x.sum(),
                row + 1 < rows ? Samples.sumOfValues(places) : Samples.sumOfGrown(places, rows * (m - 1)));
        }
        CHECK.due(of + "count(1)", x.count(1), m);
        CHECK.due(of + "count(2)", x.count(2), m);
        CHECK.due(of + "count(4)", x.count(4), rows * (m - 1));
        CHECK.due(of + "count(6)", x.count(6), 0);
        CHECK.leaves(of + "step() behind it", x, x::step, -1);
    }

    private static void theFirstRow() {
        GrowingArray x = Samples.growing(4, 3, 2, 0);
        CHECK.due("step() of the first row", x.step(), 1);
        CHECK.due("count(3)", x.count(3), 1);
        for (int a = 0; a < 9; a++) {
            CHECK.due("place(" + a + ", 3)", x.place(a, 3), a < 5 ? 1 : 0);
            CHECK.due("read(" + a + ")", x.read(a), Samples.valueAt(a));
        }
    }

    private static void theLastRow() {
        GrowingArray x = Samples.growing(4, 3, 2, 2);
        CHECK.due("count(3) ahead of it", x.count(3), 2);
        CHECK.due("count(4) ahead of it", x.count(4), 9);
        CHECK.due("step() of the last row", x.step(), 2);
        int[] due = {6, 6, 6, 0, 15, 1, 0};
        for (int what = 0; what < due.length; what++) {
            CHECK.due("count(" + what + ")", x.count(what), due[what]);
        }
        for (int a = 0; a < 15; a++) {
            CHECK.due("read(" + a + ")", x.read(a), a < 9 ? Samples.valueAt(a) : 0);
            CHECK.due("place(" + a + ", 3)", x.place(a, 3), 0);
        }
        GrowingArray two = Samples.growing(7, 2, 3, 1);
        CHECK.due("the second step() of two rows", two.step(), 2);
        CHECK.due("sum()", two.sum(), Samples.sumOfGrown(12, 18));
    }

    /** By the writes of a step: a BACKUP to each of the M disks more, or not. */
    private static void isCriticalBelowTheBoundAlone() {
        int[][] cases = {
            // N, M, FRONT, whether FRONT (M - N) is below N - 1
            {5, 6, 3, 1}, {5, 6, 4, 0}, {5, 6, 5, 0}, {5, 7, 1, 1}, {5, 7, 2, 0}, {5, 9, 0, 1}, {5, 9, 1, 0},
            {4, 6, 1, 1}, {4, 6, 2, 0}, {3, 4, 1, 1}, {3, 4, 2, 0}, {3, 10, 0, 1}, {3, 10, 1, 0},
        };
        for (int[] c : cases) {
            GrowingArray x = Samples.growing(c[0], 6, c[1] - c[0], c[2]);
            int before = x.count(11);
            x.step();
            CHECK.due("N " + c[0] + ", M " + c[1] + ", FRONT " + c[2] + ": writes",
                x.count(11), before + (2 + c[3]) * c[1]);
        }
    }

    private static void backsUpCriticalRowsAlone() {
        GrowingArray x = Samples.growing(5, 8, 2, 0);
        CHECK.due("disk(0, 5) ahead of it", x.disk(0, 5), 0);
        x.cut(7);
        x.step();
        for (int d = 0; d < 7; d++) {
            CHECK.due("disk(" + d + ", 5)", x.disk(d, 5), 1);
        }
        GrowingArray late = new GrowingArray(3, 8);
        for (int k = 0; k < 3; k++) {
            late.add();
        }
        late.grow();
        late.step();
        late.cut(6);
        late.step();
        CHECK.due("a row that is not critical: writes of disk 5", late.disk(5, 2), 6);
    }

    private static void backsUpToSparesToo() {
        GrowingArray x = Samples.growing(3, 4, 1, 0);
        x.add();
        int before = x.count(11);
        x.step();
        CHECK.due("a spare's backup", x.disk(4, 5), 1);
        CHECK.due("a spare's super", x.disk(4, 3), 3);
        CHECK.due("writes to a spare", x.disk(4, 2), 3);
        CHECK.due("writes", x.count(11), before + 5 + 4 + 5);
    }

    private static void skipsTheDiskThatIsOut() {
        for (int out = 0; out < 5; out++) {
            GrowingArray x = Samples.growing(3, 6, 2, 0);
            x.fail(out);
            int taken = x.disk(out, 2);
            int before = x.count(11);
            CHECK.due("step() without disk " + out, x.step(), 1);
            CHECK.due("writes without disk " + out, x.count(11), before + 12);
            while (x.step() == 1) {
                CHECK.due("sum() without disk " + out, x.sum(), Samples.sumOfValues(12));
            }
            CHECK.due("disk(" + out + ", 2)", x.disk(out, 2), taken);
            CHECK.due("sum() behind it", x.sum(), Samples.sumOfGrown(12, 24));
        }
    }

    private static void saysNoneIfNotReshaped() {
        GrowingArray x = Samples.filled(3, 4);
        CHECK.leaves("step() not reshaped", x, x::step, -1);
        x.add();
        CHECK.leaves("step() with a spare", x, x::step, -1);
        x.cut(0);
        CHECK.leaves("step() not reshaped, no write left", x, x::step, -1);
    }

    private static void saysNoneWhileRebuilding() {
        GrowingArray x = Samples.growing(3, 4, 1, 1);
        x.fail(2);
        x.replace();
        CHECK.leaves("step() while rebuilding", x, x::step, -1);
        x.cut(0);
        CHECK.leaves("step() while rebuilding, no write left", x, x::step, -1);
        x.cut(-1);
        while (x.rebuild() == 1) {
            CHECK.due("step() while rebuilding", x.step(), -1);
        }
        CHECK.due("step() once it is rebuilt", x.step(), 1);
    }

    private static void tellsAsItHeldAtEachWrite() {
        // 3 and 4 disks, 4 rows: rows 0 and 1 are CRITICAL, 2 and 3 are not.
        for (int steps = 0; steps < 4; steps++) {
            int writes = steps < 2 ? 12 : 8;
            for (int n = 0; n <= writes; n++) {
                String when = "step " + steps + " at cut " + n + ": ";
                GrowingArray x = Samples.growing(3, 4, 1, steps);
                String held = Samples.held(x);
                int before = x.count(11);
                x.cut(n);
                int whole = steps == 3 ? 2 : 1;
                CHECK.due(when + "step()", x.step(), n < writes ? 0 : whole);
                CHECK.due(when + "count(5)", x.count(5), n < writes ? 0 : 1);
                CHECK.due(when + "count(11)", x.count(11), before + n);
                CHECK.due(when + "count(12)", x.count(12), n < writes ? steps : steps + 1);
                CHECK.due(when + "told as it held", held.equals(Samples.held(x)), n < writes);
                x.cut(-1);
                x.open();
                CHECK.due(when + "astray()", x.astray(), 0);
                CHECK.due(when + "sum()", x.sum(), Samples.sumOfGrown(8, x.count(4)));
            }
        }
    }

    private static void refusesWhileDown() {
        GrowingArray x = Samples.down(3, 4);
        CHECK.refuses("step() while down, not reshaped", IllegalStateException.class, x, x::step);
        GrowingArray growing = Samples.growing(3, 4, 1, 1);
        growing.cut(3);
        growing.step();
        CHECK.refuses("step() while down", IllegalStateException.class, growing, growing::step);
    }
}
