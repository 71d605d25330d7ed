/** Promise 8. */
public final class ReplaceTest {
    private static final Check CHECK = new Check("ReplaceTest");

    public static void main(String[] args) {
        for (int d = 0; d < 4; d++) {
            isRebuildingFromRowZero(d);
        }
        beginsAtRowZeroEachTime();
        aSpareIsLiveAtOnce();
        aSpareAsThePowerGoes();
        aSpareThatTheArrayGrewOver();
        saysFalseWithNoneFailed();
        saysFalseWhileDown();
        CHECK.end();
    }

    private static void tells(GrowingArray x, int d, int... due) {
        for (int what = 0; what < due.length; what++) {
            CHECK.due("disk(" + d + ", " + what + ")", x.disk(d, what), due[what]);
        }
    }

    private static void isFalse(String when, GrowingArray x) {
        CHECK.leaves("replace() " + when, x, () -> x.replace() ? 1 : 0, 0);
    }

    private static void isRebuildingFromRowZero(int d) {
        GrowingArray x = Samples.growing(3, 4, 1, 2);
        x.write(0, Samples.valueAt(0));
        x.fail(d);
        int before = x.count(11);
        int sequence = x.count(9);
        x.cut(0);
        CHECK.due("replace()", x.replace(), true);
        CHECK.due("it writes to no disk", x.count(5), 1);
        x.cut(-1);
        CHECK.due("count(11)", x.count(11), before);
        CHECK.due("count(9)", x.count(9), sequence);
        tells(x, d, 2, 0, 0, 0, 0, 0);
        CHECK.due("count(7)", x.count(7), d);
        CHECK.due("count(8)", x.count(8), 0);
        CHECK.due("sum()", x.sum(), Samples.sumOfValues(8));
        x.rebuild();
        CHECK.due("count(8)", x.count(8), 1);
        tells(x, d, 2, 0, 1, 0, 0, 0);
    }

    private static void beginsAtRowZeroEachTime() {
        GrowingArray x = Samples.filled(3, 4);
        for (int d = 0; d < 3; d++) {
            x.fail(d);
            CHECK.due("replace() of disk " + d, x.replace(), true);
            for (int row = 0; row < 4; row++) {
                CHECK.due("count(8)", x.count(8), row);
                CHECK.due("rebuild()", x.rebuild(), row < 3 ? 1 : 2);
            }
            CHECK.due("sum()", x.sum(), Samples.sumOfValues(8));
            CHECK.due("astray()", x.astray(), 0);
        }
    }

    private static void aSpareIsLiveAtOnce() {
        GrowingArray x = Samples.filled(3, 4);
        x.cut(0);
        x.write(0, Samples.valueAt(0));
        x.open();
        x.add();
        x.add();
        for (int d = 3; d < 5; d++) {
            x.fail(d);
            int before = x.count(11);
            CHECK.due("replace() of a spare", x.replace(), true);
            tells(x, d, 0, 1, 1, 2, 0, 0);
            CHECK.due("count(11)", x.count(11), before + 1);
            CHECK.due("count(9)", x.count(9), 2);
            CHECK.due("count(7)", x.count(7), -1);
            CHECK.due("rebuild()", x.rebuild(), -1);
        }
        x.fail(4);
        x.cut(1);
        CHECK.due("replace() with one write left", x.replace(), true);
        x.cut(-1);
        CHECK.due("grow()", x.grow(), 5);

        GrowingArray backedUp = Samples.growing(3, 4, 1, 0);
        backedUp.add();
        backedUp.step();
        tells(backedUp, 4, 0, 1, 3, 3, 0, 1);
        backedUp.fail(4);
        CHECK.due("replace() of a spare with a backup", backedUp.replace(), true);
        tells(backedUp, 4, 0, 1, 1, 3, 0, 0);
    }

    private static void aSpareAsThePowerGoes() {
        GrowingArray x = Samples.filled(3, 4);
        x.add();
        x.fail(3);
        x.cut(0);
        int before = x.count(11);
        CHECK.due("replace() as the power goes", x.replace(), false);
        CHECK.due("count(5)", x.count(5), 0);
        CHECK.due("count(13)", x.count(13), 1);
        CHECK.due("count(11)", x.count(11), before);
        CHECK.due("count(7)", x.count(7), 3);
        tells(x, 3, 1, 1, 1, -1, -1, -1);
        isFalse("while it is down", x);
        x.open();
        tells(x, 3, 1, 1, 1, -1, -1, -1);
        CHECK.due("replace() once more", x.replace(), true);
        tells(x, 3, 0, 1, 1, 2, 0, 0);
    }

    private static void aSpareThatTheArrayGrewOver() {
        GrowingArray x = Samples.filled(3, 4);
        x.add();
        x.fail(3);
        x.grow();
        x.step();
        x.cut(0);
        CHECK.due("replace() of a disk that was a spare", x.replace(), true);
        CHECK.due("count(5)", x.count(5), 1);
        tells(x, 3, 2, 0, 0, 0, 0, 0);
    }

    private static void saysFalseWithNoneFailed() {
        GrowingArray x = Samples.filled(3, 4);
        isFalse("with none failed", x);
        x.fail(1);
        CHECK.due("replace()", x.replace(), true);
        isFalse("while rebuilding", x);
        x.rebuild();
        isFalse("with a row rebuilt", x);
        while (x.rebuild() == 1) {
            CHECK.due("replace() while rebuilding", x.replace(), false);
        }
        isFalse("once all are live", x);
    }

    private static void saysFalseWhileDown() {
        GrowingArray x = Samples.filled(3, 4);
        x.cut(0);
        x.write(0, Samples.valueAt(0));
        isFalse("while down, none failed", x);
        x.fail(1);
        isFalse("while down", x);
        tells(x, 1, 1, 0, 13, -1, -1, -1);
        x.cut(0);
        x.open();
        isFalse("while down still", x);
        x.open();
        CHECK.due("replace() once it is opened", x.replace(), true);
    }
}
