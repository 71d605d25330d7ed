/** Promise 3. */
public final class ReadTest {
    private static final Check CHECK = new Check("ReadTest");

    public static void main(String[] args) {
        for (int disks = 3; disks <= 7; disks++) {
            readsWithEachDiskOut(disks);
            readsThePlacesAtBothEnds(disks, 2);
            readsThePlacesAtBothEnds(disks, 48);
        }
        readsAmidReshapingWithEachDiskOut();
        readsADiskThatIsRebuilding();
        hasThePlacesOfNTillTheEnd();
        refusesWhatIsNoPlace();
        refusesWhileDown();
        CHECK.end();
    }

    private static void allAreThere(String when, GrowingArray x, int filled) {
        for (int a = 0; a < x.count(4); a++) {
            CHECK.due(when + ": read(" + a + ")", x.read(a), a < filled ? Samples.valueAt(a) : 0);
        }
    }

    private static void readsWithEachDiskOut(int disks) {
        for (int out = -1; out < disks; out++) {
            GrowingArray x = Samples.filled(disks, 9);
            x.fail(out);
            int before = x.count(11);
            allAreThere(disks + " disks without " + out, x, 9 * (disks - 1));
            CHECK.due("reading writes nothing", x.count(11), before);
        }
    }

    private static void readsThePlacesAtBothEnds(int disks, int rows) {
        String of = disks + " disks, " + rows + " rows: ";
        GrowingArray x = Samples.filled(disks, rows);
        int last = rows * (disks - 1) - 1;
        CHECK.due(of + "read(0)", x.read(0), Samples.valueAt(0));
        CHECK.due(of + "read(" + last + ")", x.read(last), Samples.valueAt(last));
        isNoPlace(of, x, -1, last + 1);
    }

    private static void readsAmidReshapingWithEachDiskOut() {
        for (int steps = 0; steps <= 7; steps++) {
            for (int out = -1; out < 6; out++) {
                GrowingArray x = Samples.growing(4, 7, 2, steps);
                x.fail(out);
                allAreThere(steps + " steps without " + out, x, 21);
            }
        }
    }

    private static void readsADiskThatIsRebuilding() {
        for (int steps = 0; steps <= 4; steps++) {
            for (int out = 0; out < 4; out++) {
                GrowingArray x = Samples.growing(3, 4, 1, steps);
                x.fail(out);
                x.replace();
                for (int rebuilt = 0; rebuilt <= 4; rebuilt++) {
                    allAreThere(steps + " steps, disk " + out + ", " + rebuilt + " rows rebuilt", x, 8);
                    x.rebuild();
                }
            }
        }
    }

    private static void isNoPlace(String of, GrowingArray x, int... places) {
        areRefused(of, IndexOutOfBoundsException.class, x, places);
    }

    private static void areRefused(String of, Class<? extends RuntimeException> due, GrowingArray x, int... places) {
        String before = Samples.all(x);
        for (int a : places) {
            CHECK.thrown(of + "read(" + a + ")", due, () -> x.read(a));
        }
        CHECK.stays(of + "read()", x, before);
    }

    private static void hasThePlacesOfNTillTheEnd() {
        GrowingArray x = Samples.growing(3, 4, 1, 0);
        for (int steps = 0; steps < 4; steps++) {
            CHECK.due(steps + " steps: read(7)", x.read(7), Samples.valueAt(7));
            CHECK.thrown(steps + " steps: read(8)", IndexOutOfBoundsException.class, () -> x.read(8));
            x.step();
        }
        CHECK.due("read(8) behind it", x.read(8), 0);
        CHECK.due("read(11) behind it", x.read(11), 0);
        isNoPlace("behind it: ", x, 12);
    }

    private static void refusesWhatIsNoPlace() {
        GrowingArray x = Samples.filled(3, 4);
        x.fail(0);
        isNoPlace("", x, -1, 8, Integer.MIN_VALUE, Integer.MAX_VALUE);
    }

    private static void refusesWhileDown() {
        GrowingArray x = Samples.down(3, 4);
        int[] places = {0, 7, -1, 8, Integer.MIN_VALUE, Integer.MAX_VALUE};
        areRefused("while down: ", IllegalStateException.class, x, places);
        x.open();
        CHECK.due("read(0) once it is opened", x.read(0), Samples.valueAt(0));
    }
}
