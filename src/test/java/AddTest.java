/** Promise 4. */
public final class AddTest {
    private static final Check CHECK = new Check("AddTest");

    public static void main(String[] args) {
        comesAsTheLastSpare();
        for (int disks = 3; disks <= 7; disks++) {
            tenAtMost(disks);
            tenThatAreReshaped(disks);
        }
        isNotThereIfThePowerWent();
        comesAmidReshapingAndRebuilding();
        hasASuperAsItHolds();
        refusesWhileDown();
        CHECK.end();
    }

    private static void comesAsTheLastSpare() {
        GrowingArray x = Samples.filled(4, 3);
        x.cut(0);
        x.write(0, Samples.valueAt(0));
        x.open();
        int before = x.count(11);
        CHECK.due("add()", x.add(), 5);
        CHECK.due("count(0)", x.count(0), 5);
        CHECK.due("count(1)", x.count(1), 4);
        CHECK.due("count(2)", x.count(2), 4);
        CHECK.due("count(4)", x.count(4), 9);
        CHECK.due("count(6)", x.count(6), 0);
        CHECK.due("count(11)", x.count(11), before + 1);
        int[] due = {0, 1, 1, 2, 0, 0};
        for (int what = 0; what < due.length; what++) {
            CHECK.due("disk(4, " + what + ")", x.disk(4, what), due[what]);
        }
        CHECK.due("disk(5, 0)", x.disk(5, 0), -1);
        CHECK.due("the sequence stays", x.count(9), 2);
    }

    private static void tenAtMost(int disks) {
        GrowingArray x = Samples.filled(disks, 2);
        int before = x.count(11);
        for (int due = disks + 1; due <= 10; due++) {
            CHECK.due("add()", x.add(), due);
        }
        CHECK.leaves("add() to ten", x, x::add, -1);
        x.cut(0);
        CHECK.leaves("add() to ten with no write left", x, x::add, -1);
        CHECK.due("count(0)", x.count(0), 10);
        CHECK.due("count(11)", x.count(11), before + 10 - disks);
    }

    private static void tenThatAreReshaped(int disks) {
        GrowingArray x = Samples.growing(disks, 2, 10 - disks, 0);
        CHECK.leaves("add() to ten that are reshaped", x, x::add, -1);
        while (x.step() == 1) {
            CHECK.due("add() to ten that are reshaped", x.add(), -1);
        }
        CHECK.leaves("add() to an array of ten", x, x::add, -1);
    }

    private static void isNotThereIfThePowerWent() {
        for (int disks = 3; disks <= 7; disks++) {
            GrowingArray x = Samples.filled(disks, 4);
            x.cut(0);
            CHECK.due("add() as the power goes", x.add(), 0);
            CHECK.due("count(0)", x.count(0), disks);
            for (int what = 0; what < 6; what++) {
                CHECK.due("disk(" + disks + ", " + what + ")", x.disk(disks, what), -1);
            }
            CHECK.due("fail() of it", x.fail(disks), false);
            CHECK.due("count(5)", x.count(5), 0);
            CHECK.due("count(13)", x.count(13), 1);
            x.open();
            CHECK.due("count(0) behind the opening", x.count(0), disks);
            CHECK.due("grow() over none", x.grow(), -1);
            CHECK.due("add()", x.add(), disks + 1);
            CHECK.due("disk(" + disks + ", 2)", x.disk(disks, 2), 1);
            CHECK.due("disk(" + disks + ", 3)", x.disk(disks, 3), 2);
        }
    }

    private static void comesAmidReshapingAndRebuilding() {
        GrowingArray x = Samples.growing(3, 5, 1, 2);
        CHECK.due("add() amid a reshaping", x.add(), 5);
        CHECK.due("disk(4, 1)", x.disk(4, 1), 1);
        CHECK.due("disk(3, 1)", x.disk(3, 1), 0);
        CHECK.due("count(2)", x.count(2), 4);
        x.fail(1);
        CHECK.due("add() with a disk failed", x.add(), 6);
        x.replace();
        CHECK.due("add() amid a rebuilding", x.add(), 7);
        CHECK.due("count(7)", x.count(7), 1);
        CHECK.due("sum()", x.sum(), Samples.sumOfValues(10));
    }

    private static void hasASuperAsItHolds() {
        GrowingArray x = Samples.growing(3, 5, 1, 2);
        x.add();
        for (int d = 0; d < 4; d++) {
            CHECK.due("disk(4, 3) is as that of disk " + d, x.disk(4, 3), x.disk(d, 3));
        }
        x.cut(0);
        x.step();
        x.open();
        CHECK.due("count(1)", x.count(1), 3);
        CHECK.due("count(2)", x.count(2), 4);
        CHECK.due("count(3)", x.count(3), 3);
        CHECK.due("sum()", x.sum(), Samples.sumOfValues(10));
    }

    private static void refusesWhileDown() {
        GrowingArray x = Samples.down(3, 4);
        CHECK.refuses("add() while down", IllegalStateException.class, x, x::add);
        GrowingArray ten = Samples.filled(7, 2);
        for (int k = 0; k < 3; k++) {
            ten.add();
        }
        ten.cut(0);
        ten.write(0, 1);
        CHECK.refuses("add() to ten while down", IllegalStateException.class, ten, ten::add);
    }
}
