/** Promise 2. */
public final class WriteTest {
    private static final Check CHECK = new Check("WriteTest");

    public static void main(String[] args) {
        goesToJournalsBlockAndParity();
        skipsTheDiskThatIsOut();
        reachesRebuiltRowsAlone();
        isByTheGeometryThatHolds();
        for (int disks = 3; disks <= 7; disks++) {
            takesThePlacesAtBothEnds(disks, 2);
            takesThePlacesAtBothEnds(disks, 16);
            takesThePlacesAtBothEnds(disks, 48);
        }
        hasThePlacesOfNTillTheEnd();
        takesAllNumbers();
        keepsOldOrNewAtEachWrite();
        refusesWhatIsNoPlace();
        refusesWhileDown();
        CHECK.end();
    }

    private static void writesAre(String when, GrowingArray x, int... due) {
        for (int d = 0; d < due.length; d++) {
            CHECK.due(when + ": disk(" + d + ", 2)", x.disk(d, 2), due[d]);
        }
    }

    private static void goesToJournalsBlockAndParity() {
        GrowingArray x = new GrowingArray(4, 4);
        CHECK.due("write(2, 5)", x.write(2, 5), true);
        writesAre("after write(2)", x, 1, 1, 1, 1);
        CHECK.due("disk(0, 4)", x.disk(0, 4), 1);
        CHECK.due("disk(1, 4)", x.disk(1, 4), 1);
        CHECK.due("disk(2, 4)", x.disk(2, 4), 0);
        x.write(4, Long.MIN_VALUE);
        writesAre("after write(4)", x, 3, 2, 2, 1);
        CHECK.due("read(2)", x.read(2), 5);
        CHECK.due("read(4)", x.read(4), Long.MIN_VALUE);
        CHECK.due("count(10)", x.count(10), 2);
        CHECK.due("astray()", x.astray(), 0);
    }

    private static void skipsTheDiskThatIsOut() {
        GrowingArray x = new GrowingArray(4, 4);
        x.fail(0);
        CHECK.due("write(0, 9) without disk 0", x.write(0, 9), true);
        writesAre("value's disk is out", x, 0, 1, 1, 1);
        CHECK.due("read(0) of a disk that is out", x.read(0), 9);
        CHECK.due("count(11)", x.count(11), 3);
        x.write(11, 6);
        writesAre("parity's disk is out", x, 0, 2, 2, 2);
        CHECK.due("read(11)", x.read(11), 6);
        x.write(1, 3);
        writesAre("another disk is out", x, 0, 4, 3, 3);
        CHECK.due("read(0) with another number in its row", x.read(0), 9);
    }

    private static void reachesRebuiltRowsAlone() {
        GrowingArray x = new GrowingArray(4, 4);
        x.fail(0);
        x.replace();
        x.rebuild();
        x.write(0, 1);
        CHECK.due("value to a rebuilt row: disk(0, 2)", x.disk(0, 2), 2);
        CHECK.due("a rebuilding disk has no journal", x.disk(0, 4), 0);
        x.write(5, 2);
        CHECK.due("value to a row not rebuilt: disk(0, 2)", x.disk(0, 2), 2);
        x.write(11, 4);
        CHECK.due("parity to a row not rebuilt: disk(0, 2)", x.disk(0, 2), 2);
        x.rebuild();
        x.rebuild();
        CHECK.due("rebuild()", x.rebuild(), 2);
        CHECK.due("read(0)", x.read(0), 1);
        CHECK.due("read(5)", x.read(5), 2);
        CHECK.due("astray()", x.astray(), 0);
    }

    private static void isByTheGeometryThatHolds() {
        GrowingArray x = Samples.growing(3, 6, 2, 2);
        for (int a = 0; a < 12; a++) {
            CHECK.due("write(" + a + ") amid a reshaping", x.write(a, 50 + a), true);
        }
        for (int a = 0; a < 12; a++) {
            CHECK.due("read(" + a + ") amid a reshaping", x.read(a), 50 + a);
        }
        CHECK.due("astray()", x.astray(), 0);
        while (x.step() == 1) {
            CHECK.due("astray()", x.astray(), 0);
        }
        for (int a = 0; a < 24; a++) {
            CHECK.due("read(" + a + ") behind it", x.read(a), a < 12 ? 50 + a : 0);
        }
    }

    private static void takesThePlacesAtBothEnds(int disks, int rows) {
        String of = disks + " disks, " + rows + " rows: ";
        int last = rows * (disks - 1) - 1;
        GrowingArray x = new GrowingArray(disks, rows);
        CHECK.due(of + "write(0)", x.write(0, 7), true);
        CHECK.due(of + "write(" + last + ")", x.write(last, -9), true);
        CHECK.due(of + "read(0)", x.read(0), 7);
        CHECK.due(of + "read(1)", x.read(1), 0);
        CHECK.due(of + "read(" + (last - 1) + ")", x.read(last - 1), 0);
        CHECK.due(of + "read(" + last + ")", x.read(last), -9);
        CHECK.due(of + "astray()", x.astray(), 0);
        isNoPlace(of, x, -1, last + 1);
    }

    private static void isNoPlace(String of, GrowingArray x, int... places) {
        areRefused(of, IndexOutOfBoundsException.class, x, places);
    }

    private static void areRefused(String of, Class<? extends RuntimeException> due, GrowingArray x, int... places) {
        String before = Samples.all(x);
        for (int a : places) {
            CHECK.thrown(of + "write(" + a + ")", due, () -> x.write(a, 1));
        }
        CHECK.stays(of + "write()", x, before);
    }

    private static void hasThePlacesOfNTillTheEnd() {
        GrowingArray x = Samples.growing(3, 4, 2, 0);
        for (int steps = 0; steps < 4; steps++) {
            String of = steps + " steps: ";
            CHECK.due(of + "write(0)", x.write(0, steps), true);
            CHECK.due(of + "write(7)", x.write(7, -steps), true);
            CHECK.thrown(of + "write(8)", IndexOutOfBoundsException.class, () -> x.write(8, 1));
            CHECK.due(of + "read(0)", x.read(0), steps);
            CHECK.due(of + "read(7)", x.read(7), -steps);
            x.step();
        }
        CHECK.due("write(8) behind it", x.write(8, 88), true);
        CHECK.due("write(15) behind it", x.write(15, 99), true);
        isNoPlace("behind it: ", x, 16);
        CHECK.due("read(8)", x.read(8), 88);
        CHECK.due("read(15)", x.read(15), 99);
    }

    private static void takesAllNumbers() {
        long[] numbers = {0, 1, -1, Long.MAX_VALUE, Long.MIN_VALUE, 1L << 31, -1L << 32};
        GrowingArray x = Samples.filled(3, 2);
        for (long v : numbers) {
            for (int a = 0; a < 4; a++) {
                CHECK.due("write(" + a + ", " + v + ")", x.write(a, v), true);
                CHECK.due("read(" + a + ")", x.read(a), v);
            }
            CHECK.due("astray()", x.astray(), 0);
        }
    }

    private static void keepsOldOrNewAtEachWrite() {
        // Place 5 of 4 disks: row 1, on disk 1, its parity on disk 2.
        for (int out = -1; out < 4; out++) {
            int writes = out == 1 || out == 2 ? 3 : 4;
            for (int n = 0; n <= writes; n++) {
                GrowingArray x = Samples.filled(4, 4);
                x.fail(out);
                isCutAt("without disk " + out + ", cut " + n, x, n, writes);
            }
        }
        for (int rebuilt = 0; rebuilt < 4; rebuilt++) {
            int writes = rebuilt < 2 ? 3 : 4;
            for (int n = 0; n <= writes; n++) {
                GrowingArray x = Samples.filled(4, 4);
                x.fail(1);
                x.replace();
                for (int k = 0; k < rebuilt; k++) {
                    x.rebuild();
                }
                isCutAt(rebuilt + " rows rebuilt, cut " + n, x, n, writes);
            }
        }
    }

    private static void isCutAt(String when, GrowingArray x, int n, int writes) {
        int before = x.count(11);
        int out = x.count(7);
        x.cut(n);
        CHECK.due(when + ": write(5)", x.write(5, 77), n == writes);
        CHECK.due(when + ": writes", x.count(11), before + n);
        CHECK.due(when + ": count(5)", x.count(5), n == writes ? 1 : 0);
        CHECK.due(when + ": count(10)", x.count(10), 13);
        CHECK.due(when + ": count(13)", x.count(13), n == writes ? 0 : 1);
        x.cut(-1);
        CHECK.due(when + ": open()", x.open(), n == writes ? -1 : 3);
        long kept = n == 0 ? Samples.valueAt(5) : 77;
        CHECK.due(when + ": read(5)", x.read(5), kept);
        CHECK.due(when + ": sum()", x.sum(), Samples.sumWith(12, 5, kept));
        CHECK.due(when + ": astray()", x.astray(), out < 0 ? 0 : -1);
        x.write(0, 1);
        CHECK.due(when + ": the count goes on over power", x.count(10), 14);
        CHECK.due(when + ": in the journal, too", x.disk(out == 0 ? 1 : 0, 4), 14);
    }

    private static void refusesWhatIsNoPlace() {
        GrowingArray x = Samples.growing(3, 4, 1, 1);
        x.cut(0);
        isNoPlace("", x, -1, 8, 9, 12, Integer.MIN_VALUE, Integer.MAX_VALUE);
        CHECK.due("no write to a disk was tried", x.count(13), 0);
    }

    private static void refusesWhileDown() {
        GrowingArray x = Samples.down(3, 4);
        int[] places = {0, 7, -1, 8, Integer.MIN_VALUE, Integer.MAX_VALUE};
        areRefused("while down: ", IllegalStateException.class, x, places);
        x.cut(0);
        x.open();
        CHECK.refuses("write(0) down still", IllegalStateException.class, x, () -> x.write(0, 1));
        x.open();
        CHECK.due("sum()", x.sum(), Samples.sumOfValues(8));
    }
}
