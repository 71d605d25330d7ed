/** Promise 4. */
public final class AddTest {
    private static final Check CHECK = new Check("AddTest");

    public static void main(String[] args) {
        comesAsTheLastSpare();
        tenAtMost();
        isNotThereIfThePowerWent();
        comesAmidReshapingAndRebuilding();
        GrowingArray down = Samples.down(3, 4);
        CHECK.thrown("add() while down", IllegalStateException.class, down::add);
        CHECK.due("count(0) behind it", down.count(0), 3);
        CHECK.end();
    }

    private static void comesAsTheLastSpare() {
        GrowingArray x = Samples.filled(4, 3);
        x.cut(0);
        x.write(0, Samples.valueAt(0));
        x.open();
        int before = x.count(11);
        CHECK.due("add()", x.add(), 5);
        CHECK.due("count(0)", x.count(0), 5);
        CHECK.due("count(1)", x.count(1), 4);
        CHECK.due("count(4)", x.count(4), 9);
        CHECK.due("count(11)", x.count(11), before + 1);
        int[] due = {0, 1, 1, 2, 0, 0};
        for (int what = 0; what < due.length; what++) {
            CHECK.due("disk(4, " + what + ")", x.disk(4, what), due[what]);
        }
        CHECK.due("the sequence stays", x.count(9), 2);
    }

    private static void tenAtMost() {
        GrowingArray x = new GrowingArray(7, 2);
        for (int due = 8; due <= 10; due++) {
            CHECK.due("add()", x.add(), due);
        }
        x.cut(0);
        CHECK.due("add() to ten", x.add(), -1);
        CHECK.due("no write was tried", x.count(5), 1);
        CHECK.due("count(0)", x.count(0), 10);
        CHECK.due("count(11)", x.count(11), 3);
    }

    private static void isNotThereIfThePowerWent() {
        GrowingArray x = Samples.filled(3, 4);
        x.cut(0);
        CHECK.due("add() as the power goes", x.add(), 0);
        CHECK.due("count(0)", x.count(0), 3);
        CHECK.due("disk(3, 0)", x.disk(3, 0), -1);
        CHECK.due("count(5)", x.count(5), 0);
        x.open();
        CHECK.due("count(0) behind the opening", x.count(0), 3);
        CHECK.due("add()", x.add(), 4);
        CHECK.due("disk(3, 2)", x.disk(3, 2), 1);
        CHECK.due("disk(3, 3)", x.disk(3, 3), x.count(9));
    }

    private static void comesAmidReshapingAndRebuilding() {
        GrowingArray x = Samples.growing(3, 5, 1, 2);
        CHECK.due("add() amid a reshaping", x.add(), 5);
        CHECK.due("disk(4, 1)", x.disk(4, 1), 1);
        CHECK.due("disk(3, 1)", x.disk(3, 1), 0);
        CHECK.due("count(2)", x.count(2), 4);
        x.fail(1);
        CHECK.due("add() with a disk failed", x.add(), 6);
        x.replace();
        CHECK.due("add() amid a rebuilding", x.add(), 7);
        CHECK.due("sum()", x.sum(), Samples.sumOfValues(10));
    }
}
