/** Promise 3. */
public final class ReadTest {
    private static final Check CHECK = new Check("ReadTest");

    public static void main(String[] args) {
        for (int disks = 3; disks <= 7; disks++) {
            readsWithEachDiskOut(disks);
        }
        readsAmidReshapingWithEachDiskOut();
        refuses();
        CHECK.end();
    }

    private static void allAreThere(String when, GrowingArray x, int filled) {
        for (int a = 0; a < x.count(4); a++) {
            CHECK.due(when + ": read(" + a + ")", x.read(a), a < filled ? Samples.valueAt(a) : 0);
        }
    }

    private static void readsWithEachDiskOut(int disks) {
        for (int out = -1; out < disks; out++) {
            GrowingArray x = Samples.filled(disks, 9);
            x.fail(out);
            int before = x.count(11);
            allAreThere(disks + " disks without " + out, x, 9 * (disks - 1));
            CHECK.due("reading writes nothing", x.count(11), before);
        }
    }

    private static void readsAmidReshapingWithEachDiskOut() {
        for (int steps = 0; steps <= 7; steps++) {
            for (int out = -1; out < 6; out++) {
                GrowingArray x = Samples.growing(4, 7, 2, steps);
                x.fail(out);
                allAreThere(steps + " steps without " + out, x, 21);
            }
        }
    }

    private static void refuses() {
        GrowingArray x = Samples.filled(3, 4);
        int[] wrong = {-1, 8, Integer.MIN_VALUE, Integer.MAX_VALUE};
        for (int a : wrong) {
            CHECK.thrown("read(" + a + ")", IndexOutOfBoundsException.class, () -> x.read(a));
        }
        GrowingArray down = Samples.down(3, 4);
        CHECK.thrown("read(0) while down", IllegalStateException.class, () -> down.read(0));
        CHECK.thrown("read(8) while down", IllegalStateException.class, () -> down.read(8));
    }
}
