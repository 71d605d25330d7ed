/** Term 1: what lies on which disk, looked at in the blocks themselves. */
public final class GeometryTest {
    private static final Check CHECK = new Check("GeometryTest");

    public static void main(String[] args) {
        for (int disks = 3; disks <= 7; disks++) {
            GrowingArray x = Samples.filled(disks, 17);
            for (int row = 0; row < 17; row++) {
                rowIsBy(disks + " disks, ", x, disks, row, 17 * (disks - 1));
            }
            for (int spares = 1; disks + spares <= 10; spares++) {
                amidAReshaping(disks, spares);
            }
        }
        CHECK.end();
    }

    private static void amidAReshaping(int disks, int spares) {
        for (int steps = 0; steps <= 6; steps++) {
            String when = disks + " + " + spares + " disks, " + steps + " steps, ";
            GrowingArray x = Samples.growing(disks, 6, spares, steps);
            for (int row = 0; row < 6; row++) {
                rowIsBy(when, x, row < steps ? disks + spares : disks, row, 6 * (disks - 1));
            }
        }
    }

    private static void rowIsBy(String when, GrowingArray x, int n, int row, int filled) {
        int parityDisk = n - 1 - row % n;
        int disk = parityDisk;
        long parity = 0;
        for (int a = row * (n - 1); a < (row + 1) * (n - 1); a++) {
            disk = disk == n - 1 ? 0 : disk + 1;
            long due = a < filled ? Samples.valueAt(a) : 0;
            CHECK.due(when + "row " + row + " on disk " + disk, Inside.block(x, disk, row), due);
            parity ^= due;
        }
        CHECK.due(when + "row " + row + "'s parity", Inside.block(x, parityDisk, row), parity);
    }
}
