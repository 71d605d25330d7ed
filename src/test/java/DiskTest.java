/** Promise 13. */
public final class DiskTest {
    private static final Check CHECK = new Check("DiskTest");

    public static void main(String[] args) {
        tellsOfEach();
        aFailedOne();
        aRebuildingOne();
        aSpare();
        whileDown();
        whileDownAsAJournalOrABackupWasWritten();
        aDiskThatIsNone();
        anotherWhat();
        CHECK.end();
    }

    private static void tells(GrowingArray x, int d, int... due) {
        for (int what = 0; what < due.length; what++) {
            CHECK.due("disk(" + d + ", " + what + ")", x.disk(d, what), due[what]);
        }
    }

    private static void isNone(GrowingArray x, int d) {
        tells(x, d, -1, -1, -1, -1, -1, -1, -1);
    }

    private static void tellsOfEach() {
        GrowingArray x = new GrowingArray(3, 4);
        tells(x, 0, 0, 0, 0, 1, 0, 0);
        x.write(0, 1);
        x.add();
        tells(x, 0, 0, 0, 2, 1, 1, 0);
        tells(x, 1, 0, 0, 1, 1, 1, 0);
        tells(x, 2, 0, 0, 1, 1, 0, 0);
        tells(x, 3, 0, 1, 1, 1, 0, 0);
        x.grow();
        x.step();
        tells(x, 0, 0, 0, 6, 3, 1, 1);
        tells(x, 3, 0, 0, 5, 3, 0, 1);
    }

    private static void aFailedOne() {
        GrowingArray x = new GrowingArray(3, 4);
        x.write(0, 1);
        x.add();
        x.grow();
        x.step();
        x.fail(0);
        tells(x, 0, 1, 0, 6, -1, -1, -1);
        x.write(0, 2);
        x.step();
        tells(x, 0, 1, 0, 6, -1, -1, -1);
        tells(x, 1, 0, 0, 9, 4, 2, 1);
        tells(x, 2, 0, 0, 9, 4, 2, 1);
        tells(x, 3, 0, 0, 9, 4, 0, 1);
    }

    private static void aRebuildingOne() {
        GrowingArray x = new GrowingArray(3, 4);
        x.write(0, 1);
        x.add();
        x.grow();
        x.step();
        x.fail(0);
        x.replace();
        tells(x, 0, 2, 0, 0, 0, 0, 0);
        for (int row = 0; row < 3; row++) {
            x.rebuild();
            tells(x, 0, 2, 0, row + 1, 0, 0, 0);
        }
        x.rebuild();
        tells(x, 0, 0, 0, 5, 4, 0, 0);
        x.write(0, 3);
        tells(x, 0, 0, 0, 7, 4, 2, 0);
    }

    private static void aSpare() {
        GrowingArray x = Samples.growing(3, 4, 1, 2);
        x.add();
        tells(x, 3, 0, 0, 8, 4, 0, 1);
        tells(x, 4, 0, 1, 1, 4, 0, 0);
        x.fail(4);
        tells(x, 4, 1, 1, 1, -1, -1, -1);
        x.replace();
        tells(x, 4, 0, 1, 1, 4, 0, 0);
        x.step();
        x.step();
        tells(x, 4, 0, 1, 3, 6, 0, 0);
        x.grow();
        tells(x, 4, 0, 0, 4, 7, 0, 0);
    }

    private static void whileDown() {
        GrowingArray x = new GrowingArray(3, 4);
        x.add();
        x.cut(2);
        x.grow();
        tells(x, 0, 0, 0, 1, 2, 0, 0);
        tells(x, 1, 0, 0, 1, 2, 0, 0);
        tells(x, 2, 0, 0, 0, 1, 0, 0);
        tells(x, 3, 0, 1, 1, 1, 0, 0);
        isNone(x, 4);
        x.fail(1);
        tells(x, 1, 1, 0, 1, -1, -1, -1);
    }

    private static void whileDownAsAJournalOrABackupWasWritten() {
        GrowingArray x = new GrowingArray(3, 4);
        x.cut(1);
        x.write(0, 1);
        tells(x, 0, 0, 0, 1, 1, 1, 0);
        tells(x, 1, 0, 0, 0, 1, 0, 0);
        GrowingArray growing = new GrowingArray(3, 4);
        growing.add();
        growing.grow();
        growing.cut(2);
        growing.step();
        tells(growing, 1, 0, 0, 2, 2, 0, 1);
        tells(growing, 2, 0, 0, 1, 2, 0, 0);
    }

    private static void aDiskThatIsNone() {
        int[] wrong = {-1, -2, 10, 11, Integer.MIN_VALUE, Integer.MAX_VALUE};
        GrowingArray x = new GrowingArray(3, 4);
        for (int disks = 3; disks <= 10; disks++) {
            for (int d : wrong) {
                isNone(x, d);
            }
            isNone(x, disks);
            tells(x, disks - 1, 0, disks > 3 ? 1 : 0);
            x.add();
        }
    }

    private static void anotherWhat() {
        int[] wrong = {-1, 6, 7, Integer.MIN_VALUE, Integer.MAX_VALUE};
        GrowingArray x = Samples.growing(3, 4, 1, 1);
        x.add();
        x.fail(1);
        GrowingArray down = Samples.down(3, 4);
        for (int what : wrong) {
            for (int d = -1; d <= 5; d++) {
                CHECK.due("disk(" + d + ", " + what + ")", x.disk(d, what), -1);
                CHECK.due("disk(" + d + ", " + what + ") while down", down.disk(d, what), -1);
            }
        }
    }
}
