/** Promise 7. */
public final class FailTest {
    private static final Check CHECK = new Check("FailTest");
    private static final int[] NEVER = {-1, -2, 10, 11, Integer.MIN_VALUE, Integer.MAX_VALUE};

    public static void main(String[] args) {
        for (int disks = 3; disks <= 7; disks++) {
            eachDiskMay(disks);
        }
        saysFalseOfADiskThatIsNone();
        saysFalseWithOneFailed();
        saysFalseWithOneOut();
        aSpareFails();
        whileDown();
        whileDownWithOneOut();
        CHECK.end();
    }

    private static void fails(String when, GrowingArray x, int d) {
        int before = x.count(11);
        CHECK.due(when + "fail(" + d + ")", x.fail(d), true);
        CHECK.due(when + "disk(" + d + ", 0)", x.disk(d, 0), 1);
        CHECK.due(when + "count(7)", x.count(7), d);
        CHECK.due(when + "count(11)", x.count(11), before);
    }

    private static void isFalse(String when, GrowingArray x, int... disks) {
        String before = Samples.all(x);
        for (int d : disks) {
            CHECK.due(when + "fail(" + d + ")", x.fail(d), false);
        }
        CHECK.stays(when + "fail()", x, before);
    }

    private static void eachDiskMay(int disks) {
        for (int d = 0; d < disks; d++) {
            GrowingArray x = Samples.filled(disks, 4);
            fails(disks + " disks: ", x, d);
            CHECK.due("sum() without disk " + d, x.sum(), Samples.sumOfValues(4 * (disks - 1)));
        }
    }

    private static void saysFalseOfADiskThatIsNone() {
        for (int disks = 3; disks <= 10; disks++) {
            GrowingArray x = Samples.filled(3, 4);
            for (int k = 3; k < disks; k++) {
                x.add();
            }
            isFalse(disks + " disks: ", x, NEVER);
            isFalse(disks + " disks: ", x, disks);
            fails(disks + " disks: ", x, disks - 1);
        }
    }

    private static void saysFalseWithOneFailed() {
        GrowingArray x = Samples.filled(4, 4);
        x.add();
        x.fail(2);
        isFalse("disk 2 is failed: ", x, -1, 0, 1, 2, 3, 4, 5);
    }

    private static void saysFalseWithOneOut() {
        GrowingArray x = Samples.filled(3, 4);
        x.add();
        x.fail(1);
        x.replace();
        for (int rebuilt = 0; rebuilt < 4; rebuilt++) {
            isFalse(rebuilt + " rows of disk 1 are rebuilt: ", x, 0, 1, 2, 3);
            x.rebuild();
        }
        fails("all are live: ", x, 1);
    }

    private static void aSpareFails() {
        GrowingArray x = Samples.filled(3, 4);
        isFalse("ahead of add(): ", x, 3);
        x.add();
        fails("a spare: ", x, 3);
        isFalse("a spare is failed: ", x, 0, 3);
        CHECK.due("astray() with a spare failed", x.astray(), 0);
        x.replace();
        fails("the spare was replaced: ", x, 0);
    }

    private static void whileDown() {
        for (int d = 0; d < 4; d++) {
            GrowingArray x = Samples.filled(3, 4);
            x.add();
            x.cut(0);
            x.write(0, 1);
            isFalse("down: ", x, NEVER);
            isFalse("down: ", x, 4);
            fails("down: ", x, d);
            isFalse("down with disk " + d + " failed: ", x, 0, 1, 2, 3);
            x.open();
            CHECK.due("count(7) once it is opened", x.count(7), d);
            CHECK.due("sum()", x.sum(), Samples.sumOfValues(8));
        }
    }

    private static void whileDownWithOneOut() {
        GrowingArray x = Samples.filled(3, 4);
        x.fail(0);
        x.replace();
        x.rebuild();
        x.cut(0);
        x.rebuild();
        isFalse("down, disk 0 is rebuilding: ", x, 0, 1, 2);
        x.cut(0);
        x.open();
        isFalse("down still, disk 0 is rebuilding: ", x, 1);
        x.open();
        isFalse("up, disk 0 is rebuilding: ", x, 1);
        CHECK.due("sum()", x.sum(), Samples.sumOfValues(8));
    }
}
