/** Promise 7. */
public final class FailTest {
    private static final Check CHECK = new Check("FailTest");
    private static final int[] NEVER = {-1, -2, 10, 11, Integer.MIN_VALUE, Integer.MAX_VALUE};

    public static void main(String[] args) {
        for (int disks = 3; disks <= 7; disks++) {
            eachDiskMay(disks);
        }
        saysFalseOfADiskThatIsNone();
        saysFalseWithOneFailed();
        saysFalseWithOneOut();
        aSpareFails();
        whileDown();
        whileDownWithOneOut();
        CHECK.end();
    }

    private static void fails(String when, GrowingArray x, int d) {
        int before = x.count(11);
        CHECK.due(when + "fail(" + d + ")", x.fail(d), true);
        CHECK.due(when + "disk(" + d + ", 0)", x.disk(d, 0), 1);
        CHECK.due(when + "count(7)", x.count(7), d);
        CHECK.due(when + "count(11)", x.count(11), before);
    }

    private static void isFalse(String when, GrowingArray x, int d) {
        CHECK.leaves(when + "fail(" + d + ")", x, () -> x.fail(d) ? 1 : 0, 0);
    }

    private static void eachDiskMay(int disks) {
        for (int d = 0; d < disks; d++) {
            GrowingArray x = Samples.filled(disks, 4);
            fails(disks + " disks: ", x, d);
            CHECK.due("sum() without disk " + d, x.sum(), Samples.sumOfValues(4 * (disks - 1)));
        }
    }

    private static void saysFalseOfADiskThatIsNone() {
        GrowingArray x = Samples.filled(3, 4);
        for (int disks = 3; disks <= 10; disks++) {
            for (int d : NEVER) {
                isFalse(disks + " disks: ", x, d);
            }
            isFalse(disks + " disks: ", x, disks);
            x.add();
        }
        fails("ten disks: ", x, 9);
    }

    private static void saysFalseWithOneFailed() {
        GrowingArray x = Samples.filled(4, 4);
        x.add();
        x.fail(2);
        for (int d = -1; d <= 5; d++) {
            isFalse("disk 2 is failed: ", x, d);
        }
    }

    private static void saysFalseWithOneOut() {
        GrowingArray x = Samples.filled(3, 4);
        x.add();
        x.fail(1);
        x.replace();
        for (int rebuilt = 0; rebuilt < 4; rebuilt++) {
            for (int d = 0; d < 4; d++) {
                isFalse(rebuilt + " rows of disk 1 are rebuilt: ", x, d);
            }
            x.rebuild();
        }
        fails("all are live: ", x, 1);
    }

    private static void aSpareFails() {
        GrowingArray x = Samples.filled(3, 4);
        isFalse("ahead of add(): ", x, 3);
        x.add();
        fails("a spare: ", x, 3);
        isFalse("a spare is failed: ", x, 0);
        isFalse("a spare is failed: ", x, 3);
        CHECK.due("astray() with a spare failed", x.astray(), 0);
        x.replace();
        fails("the spare was replaced: ", x, 0);
    }

    private static void whileDown() {
        for (int d = 0; d < 4; d++) {
            GrowingArray x = Samples.filled(3, 4);
            x.add();
            x.cut(0);
            x.write(0, 1);
            for (int none : NEVER) {
                isFalse("down: ", x, none);
            }
            isFalse("down: ", x, 4);
            fails("down: ", x, d);
            for (int other = 0; other < 4; other++) {
                isFalse("down with disk " + d + " failed: ", x, other);
            }
            x.open();
            CHECK.due("count(7) once it is opened", x.count(7), d);
            CHECK.due("sum()", x.sum(), Samples.sumOfValues(8));
        }
    }

    private static void whileDownWithOneOut() {
        GrowingArray x = Samples.filled(3, 4);
        x.fail(0);
        x.replace();
        x.rebuild();
        x.cut(0);
        x.rebuild();
        for (int d = 0; d < 3; d++) {
            isFalse("down, disk 0 is rebuilding: ", x, d);
        }
        x.cut(0);
        x.open();
        isFalse("down still, disk 0 is rebuilding: ", x, 1);
        x.open();
        isFalse("up, disk 0 is rebuilding: ", x, 1);
        CHECK.due("sum()", x.sum(), Samples.sumOfValues(8));
    }
}
