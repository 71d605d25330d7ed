/** Promise 1. */
public final class NewObjectTest {
    private static final Check CHECK = new Check("NewObjectTest");

    public static void main(String[] args) {
        for (int disks = 3; disks <= 7; disks++) {
            for (int rows = 2; rows <= 48; rows++) {
                isNew(disks, rows, disks, rows);
            }
        }
        int[] wrongDisks = {2, 8, 0, -1, 10, Integer.MIN_VALUE, Integer.MAX_VALUE};
        for (int disks : wrongDisks) {
            isNew(disks, 2, 4, 2);
            isNew(disks, 48, 4, 48);
        }
        int[] wrongRows = {1, 49, 0, -1, Integer.MIN_VALUE, Integer.MAX_VALUE};
        for (int rows : wrongRows) {
            isNew(3, rows, 3, 16);
            isNew(7, rows, 7, 16);
            isNew(2, rows, 4, 16);
            isNew(8, rows, 4, 16);
        }
        powerStays();
        CHECK.end();
    }

    private static void isNew(int disks, int rows, int dueDisks, int dueRows) {
        GrowingArray x = new GrowingArray(disks, rows);
        String made = "new(" + disks + ", " + rows + ").";
        int[] due = {dueDisks, dueDisks, dueDisks, 0, dueRows * (dueDisks - 1), 1, 0, -1, 0, 1, 0, 0, 0, 0, dueRows};
        for (int what = 0; what < due.length; what++) {
            CHECK.due(made + "count(" + what + ")", x.count(what), due[what]);
        }
        int[] dueOfDisk = {0, 0, 0, 1, 0, 0};
        for (int d = 0; d < dueDisks; d++) {
            for (int what = 0; what < dueOfDisk.length; what++) {
                CHECK.due(made + "disk(" + d + ", " + what + ")", x.disk(d, what), dueOfDisk[what]);
            }
        }
        for (int a = 0; a < dueRows * (dueDisks - 1); a++) {
            CHECK.due(made + "read(" + a + ")", x.read(a), 0);
        }
        CHECK.due(made + "astray()", x.astray(), 0);
        CHECK.due(made + "open()", x.open(), GrowingArray.NONE);
    }

    private static void powerStays() {
        GrowingArray x = new GrowingArray(3, 48);
        for (int a = 0; a < 96; a++) {
            CHECK.due("write(" + a + ")", x.write(a, a), true);
        }
    }
}
