import java.lang.reflect.Field;

/**
 * Promises 8, 9 and 15 and term 1, where no run of calls can show the blocks: they are looked at,
 * and changed, behind the face's back. How they are held is free, so this is the one test that
 * has nothing to say once the class holds them another way.
 */
public final class InsideTest {
    private static final Check CHECK = new Check("InsideTest");

    public static void main(String[] args) throws ReflectiveOperationException {
        try {
            block(new GrowingArray(3, 2), 0, 0);
        } catch (NoSuchFieldException | ClassCastException e) {
            System.out.println("InsideTest: GrowingArray holds its blocks another way by now");
            return;
        }
        for (int disks = 3; disks <= 7; disks++) {
            liesByTheGeometry(disks, 0, 0, 17);
            for (int spares = 1; disks + spares <= 10; spares++) {
                for (int steps = 0; steps <= 6; steps++) {
                    liesByTheGeometry(disks, spares, steps, 6);
                }
            }
        }
        aReplacedDiskHasZeros();
        aRowThatTheDiskHasNoBlockOfIsZero();
        astrayCountsRowsThatAreSpoilt();
        astrayIsByTheGeometryThatHolds();
        CHECK.end();
    }

    private static long[] blocks(GrowingArray x, int d) throws ReflectiveOperationException {
        Object disk = ((Object[]) field(GrowingArray.class, x, "disks"))[d];
        return (long[]) field(disk.getClass(), disk, "blocks");
    }

    private static Object field(Class<?> of, Object from, String name) throws ReflectiveOperationException {
        Field found = of.getDeclaredField(name);
        found.setAccessible(true);
        return found.get(from);
    }

    private static long block(GrowingArray x, int d, int row) throws ReflectiveOperationException {
        return blocks(x, d)[row];
    }

    private static void spoil(GrowingArray x, int d, int row) throws ReflectiveOperationException {
        blocks(x, d)[row] ^= 1L << 63;
    }

    private static void liesByTheGeometry(int disks, int spares, int steps, int rows)
            throws ReflectiveOperationException {
        GrowingArray x = Samples.growing(disks, rows, spares, steps);
        String when = disks + " + " + spares + " disks, " + steps + " steps, row ";
        for (int row = 0; row < rows; row++) {
            rowIsBy(when + row, x, row < steps ? disks + spares : disks, row, rows * (disks - 1));
        }
    }

    private static void rowIsBy(String when, GrowingArray x, int n, int row, int filled)
            throws ReflectiveOperationException {
        int parityDisk = n - 1 - row % n;
        int disk = parityDisk;
        long parity = 0;
        for (int a = row * (n - 1); a < (row + 1) * (n - 1); a++) {
            disk = disk == n - 1 ? 0 : disk + 1;
            long due = a < filled ? Samples.valueAt(a) : 0;
            CHECK.due(when + " on disk " + disk, block(x, disk, row), due);
            parity ^= due;
        }
        CHECK.due(when + ", its parity", block(x, parityDisk, row), parity);
    }

    private static void aReplacedDiskHasZeros() throws ReflectiveOperationException {
        for (int d = 0; d < 5; d++) {
            GrowingArray x = Samples.filled(4, 5);
            x.add();
            spoil(x, 4, 0);
            spoil(x, 4, 4);
            x.fail(d);
            x.replace();
            for (int row = 0; row < 5; row++) {
                CHECK.due("replaced disk " + d + ", row " + row, block(x, d, row), 0);
            }
        }
    }

    private static void aRowThatTheDiskHasNoBlockOfIsZero() throws ReflectiveOperationException {
        GrowingArray x = Samples.growing(3, 4, 1, 2);
        x.fail(3);
        x.replace();
        for (int row = 0; row < 4; row++) {
            spoil(x, 3, row);
        }
        for (int row = 0; row < 4; row++) {
            x.rebuild();
        }
        CHECK.due("row 2, by N, on the rebuilt disk 3", block(x, 3, 2), 0);
        CHECK.due("row 3, by N, on the rebuilt disk 3", block(x, 3, 3), 0);
        CHECK.due("astray()", x.astray(), 0);
    }

    private static void astrayCountsRowsThatAreSpoilt() throws ReflectiveOperationException {
        for (int d = 0; d < 4; d++) {
            GrowingArray x = Samples.filled(4, 6);
            for (int row = 0; row < 6; row++) {
                spoil(x, d, row);
                CHECK.due("astray() with rows 0 to " + row + " of disk " + d + " spoilt", x.astray(), row + 1);
            }
            spoil(x, (d + 1) % 4, 2);
            CHECK.due("astray() with a row spoilt twice alike", x.astray(), 5);
        }
    }

    private static void astrayIsByTheGeometryThatHolds() throws ReflectiveOperationException {
        GrowingArray x = Samples.growing(3, 6, 2, 2);
        spoil(x, 4, 1);
        CHECK.due("astray() with a row by M spoilt", x.astray(), 1);
        spoil(x, 4, 2);
        CHECK.due("a row by N has no block on disk 4", x.astray(), 1);
        spoil(x, 2, 5);
        CHECK.due("astray() with a row by N spoilt, too", x.astray(), 2);
    }
}
