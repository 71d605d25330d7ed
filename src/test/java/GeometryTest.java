/** Term 1: what lies on which disk, told by the disks that a write of each place reaches. */
public final class GeometryTest {
    private static final Check CHECK = new Check("GeometryTest");

    public static void main(String[] args) {
        for (int disks = 3; disks <= 7; disks++) {
            everyWriteReaches(disks, 0, 0, 9);
            for (int spares = 1; disks + spares <= 10; spares++) {
                for (int steps = 0; steps <= 6; steps++) {
                    everyWriteReaches(disks, spares, steps, 6);
                }
            }
        }
        CHECK.end();
    }

    private static void everyWriteReaches(int disks, int spares, int steps, int rows) {
        String when = disks + " + " + spares + " disks, " + steps + " steps: ";
        GrowingArray x = Samples.growing(disks, rows, spares, steps);
        int m = disks + spares;
        int[] due = new int[m];
        for (int d = 0; d < m; d++) {
            due[d] = x.disk(d, 2);
        }
        boolean ended = spares > 0 && steps == rows;
        for (int a = 0; a < rows * (disks - 1); a++) {
            int n = ended || a < steps * (m - 1) ? m : disks;
            int parity = n - 1 - a / (n - 1) % n;
            int data = behind(n, parity, a % (n - 1));
            x.write(a, 7);
            // The journals go to disks 0 and 1.
            due[0]++;
            due[1]++;
            due[data]++;
            due[parity]++;
            CHECK.due(when + "write(" + a + "), writes to disk " + data, x.disk(data, 2), due[data]);
            CHECK.due(when + "write(" + a + "), writes to disk " + parity, x.disk(parity, 2), due[parity]);
        }
        for (int d = 0; d < m; d++) {
            CHECK.due(when + "writes to disk " + d, x.disk(d, 2), due[d]);
        }
        CHECK.due(when + "astray()", x.astray(), 0);
    }

    /** The disk of a row's data, so many on from the first one behind the parity. */
    private static int behind(int n, int parity, int index) {
        int disk = parity;
        for (int k = 0; k <= index; k++) {
            disk = disk == n - 1 ? 0 : disk + 1;
        }
        return disk;
    }
}
