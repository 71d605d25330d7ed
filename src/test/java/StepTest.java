/** Promise 6. */
public final class StepTest {
    private static final Check CHECK = new Check("StepTest");

    public static void main(String[] args) {
        for (int disks = 3; disks <= 7; disks++) {
            for (int spares = 1; disks + spares <= 10; spares++) {
                movesEveryRow(disks, 2, spares);
                movesEveryRow(disks, 11, spares);
            }
        }
        backsUpCriticalRowsAlone();
        backsUpToSparesToo();
        skipsTheDiskThatIsOut();
        saysNone();
        GrowingArray down = Samples.down(3, 4);
        CHECK.thrown("step() while down", IllegalStateException.class, down::step);
        CHECK.end();
    }

    private static void movesEveryRow(int disks, int rows, int spares) {
        GrowingArray x = Samples.growing(disks, rows, spares, 0);
        int places = rows * (disks - 1);
        int m = disks + spares;
        String of = disks + " + " + spares + " disks, " + rows + " rows: ";
        for (int row = 0; row < rows; row++) {
            int before = x.count(11);
            boolean critical = row * spares < disks - 1;
            CHECK.due(of + "step()", x.step(), row + 1 < rows ? 1 : 2);
            CHECK.due(of + "writes", x.count(11), before + (critical ? 3 : 2) * m);
            CHECK.due(of + "count(3)", x.count(3), (row + 1) % rows);
            CHECK.due(of + "count(9)", x.count(9), row + 3);
            CHECK.due(of + "count(12)", x.count(12), row + 1);
            CHECK.due(of + "astray()", x.astray(), 0);
            CHECK.due(of + "sum()", x.sum(),
                row + 1 < rows ? Samples.sumOfValues(places) : Samples.sumOfGrown(places, rows * (m - 1)));
        }
        CHECK.due(of + "count(1)", x.count(1), m);
        CHECK.due(of + "count(2)", x.count(2), m);
        CHECK.due(of + "count(4)", x.count(4), rows * (m - 1));
        CHECK.due(of + "count(6)", x.count(6), 0);
        CHECK.due(of + "step() behind it", x.step(), -1);
    }

    private static void backsUpCriticalRowsAlone() {
        GrowingArray x = Samples.growing(5, 8, 2, 0);
        CHECK.due("disk(0, 5) ahead of it", x.disk(0, 5), 0);
        x.cut(7);
        x.step();
        for (int d = 0; d < 7; d++) {
            CHECK.due("disk(" + d + ", 5)", x.disk(d, 5), 1);
        }
        GrowingArray late = new GrowingArray(3, 8);
        for (int k = 0; k < 3; k++) {
            late.add();
        }
        late.grow();
        late.step();
        late.cut(6);
        late.step();
        CHECK.due("a row that is not critical: writes of disk 5", late.disk(5, 2), 6);
    }

    private static void backsUpToSparesToo() {
        GrowingArray x = Samples.growing(3, 4, 1, 0);
        x.add();
        int before = x.count(11);
        x.step();
        CHECK.due("a spare's backup", x.disk(4, 5), 1);
        CHECK.due("a spare's super", x.disk(4, 3), 3);
        CHECK.due("writes to a spare", x.disk(4, 2), 3);
        CHECK.due("writes", x.count(11), before + 5 + 4 + 5);
    }

    private static void skipsTheDiskThatIsOut() {
        for (int out = 0; out < 5; out++) {
            GrowingArray x = Samples.growing(3, 6, 2, 0);
            x.fail(out);
            int taken = x.disk(out, 2);
            int before = x.count(11);
            CHECK.due("step() without disk " + out, x.step(), 1);
            CHECK.due("writes without disk " + out, x.count(11), before + 12);
            while (x.step() == 1) {
                CHECK.due("sum() without disk " + out, x.sum(), Samples.sumOfValues(12));
            }
            CHECK.due("disk(" + out + ", 2)", x.disk(out, 2), taken);
            CHECK.due("sum() behind it", x.sum(), Samples.sumOfGrown(12, 24));
        }
    }

    private static void saysNone() {
        GrowingArray x = Samples.filled(3, 4);
        CHECK.due("step() not reshaped", x.step(), -1);
        x.add();
        CHECK.due("step() with a spare", x.step(), -1);
        x.grow();
        x.fail(2);
        x.replace();
        String before = Samples.all(x);
        CHECK.due("step() while rebuilding", x.step(), -1);
        CHECK.isTrue("it changed nothing", before.equals(Samples.all(x)));
        while (x.rebuild() == 1) {
            CHECK.due("step() while rebuilding", x.step(), -1);
        }
        CHECK.due("step() once it is rebuilt", x.step(), 1);
    }
}
