/** Promise 2. */
public final class WriteTest {
    private static final Check CHECK = new Check("WriteTest");

    public static void main(String[] args) {
        goesToJournalsBlockAndParity();
        skipsTheDiskThatIsOut();
        reachesRebuiltRowsAlone();
        isByTheGeometryThatHolds();
        keepsOldOrNewOverPower();
        refusesWhatIsNoPlace();
        refusesWhileDown();
        CHECK.end();
    }

    private static void writesAre(String when, GrowingArray x, int... due) {
        for (int d = 0; d < due.length; d++) {
            CHECK.due(when + ": disk(" + d + ", 2)", x.disk(d, 2), due[d]);
        }
    }

    private static void goesToJournalsBlockAndParity() {
        GrowingArray x = new GrowingArray(4, 4);
        CHECK.due("write(2, 5)", x.write(2, 5), true);
        writesAre("after write(2)", x, 1, 1, 1, 1);
        CHECK.due("disk(0, 4)", x.disk(0, 4), 1);
        CHECK.due("disk(1, 4)", x.disk(1, 4), 1);
        CHECK.due("disk(2, 4)", x.disk(2, 4), 0);
        x.write(4, Long.MIN_VALUE);
        writesAre("after write(4)", x, 3, 2, 2, 1);
        CHECK.due("read(2)", x.read(2), 5);
        CHECK.due("read(4)", x.read(4), Long.MIN_VALUE);
        CHECK.due("count(10)", x.count(10), 2);
        CHECK.due("astray()", x.astray(), 0);
    }

    private static void skipsTheDiskThatIsOut() {
        GrowingArray x = new GrowingArray(4, 4);
        x.fail(0);
        CHECK.due("write(0, 9) without disk 0", x.write(0, 9), true);
        writesAre("value's disk is out", x, 0, 1, 1, 1);
        CHECK.due("read(0) of a disk that is out", x.read(0), 9);
        CHECK.due("count(11)", x.count(11), 3);
        x.write(11, 6);
        writesAre("parity's disk is out", x, 0, 2, 2, 2);
        CHECK.due("read(11)", x.read(11), 6);
        x.write(1, 3);
        writesAre("another disk is out", x, 0, 4, 3, 3);
        CHECK.due("read(0) with another number in its row", x.read(0), 9);
    }

    private static void reachesRebuiltRowsAlone() {
        GrowingArray x = new GrowingArray(4, 4);
        x.fail(0);
        x.replace();
        x.rebuild();
        x.write(0, 1);
        CHECK.due("value to a rebuilt row: disk(0, 2)", x.disk(0, 2), 2);
        CHECK.due("a rebuilding disk has no journal", x.disk(0, 4), 0);
        x.write(5, 2);
        CHECK.due("value to a row not rebuilt: disk(0, 2)", x.disk(0, 2), 2);
        x.rebuild();
        x.rebuild();
        CHECK.due("rebuild()", x.rebuild(), 2);
        CHECK.due("read(0)", x.read(0), 1);
        CHECK.due("read(5)", x.read(5), 2);
        CHECK.due("astray()", x.astray(), 0);
    }

    private static void isByTheGeometryThatHolds() {
        GrowingArray x = Samples.growing(3, 6, 2, 2);
        for (int a = 0; a < 12; a++) {
            CHECK.due("write(" + a + ") amid a reshaping", x.write(a, 50 + a), true);
        }
        for (int a = 0; a < 12; a++) {
            CHECK.due("read(" + a + ") amid a reshaping", x.read(a), 50 + a);
        }
        CHECK.due("astray()", x.astray(), 0);
        while (x.step() == 1) {
            CHECK.due("astray()", x.astray(), 0);
        }
        for (int a = 0; a < 24; a++) {
            CHECK.due("read(" + a + ") behind it", x.read(a), a < 12 ? 50 + a : 0);
        }
    }

    private static void keepsOldOrNewOverPower() {
        for (int n = 0; n <= 4; n++) {
            GrowingArray x = Samples.filled(4, 4);
            x.cut(n);
            CHECK.due("write at cut " + n, x.write(5, 77), n == 4);
            CHECK.due("count(10) at cut " + n, x.count(10), 13);
            x.cut(-1);
            CHECK.due("open() at cut " + n, x.open(), n == 4 ? -1 : 3);
            CHECK.due("read(5) at cut " + n, x.read(5), n == 0 ? Samples.valueAt(5) : 77);
            CHECK.due("astray() at cut " + n, x.astray(), 0);
            x.write(0, 1);
            CHECK.due("the count goes on over power", x.disk(0, 4), 14);
        }
    }

    private static void refusesWhatIsNoPlace() {
        GrowingArray x = Samples.growing(3, 4, 1, 1);
        int[] wrong = {-1, 8, 9, Integer.MIN_VALUE, Integer.MAX_VALUE};
        String before = Samples.all(x);
        for (int a : wrong) {
            CHECK.thrown("write(" + a + ")", IndexOutOfBoundsException.class, () -> x.write(a, 1));
        }
        CHECK.isTrue("a refused write changes nothing", before.equals(Samples.all(x)));
    }

    private static void refusesWhileDown() {
        GrowingArray x = Samples.down(3, 4);
        String before = Samples.all(x);
        CHECK.thrown("write(0) while down", IllegalStateException.class, () -> x.write(0, 1));
        CHECK.thrown("write(-1) while down", IllegalStateException.class, () -> x.write(-1, 1));
        CHECK.isTrue("a refused write changes nothing", before.equals(Samples.all(x)));
    }
}
