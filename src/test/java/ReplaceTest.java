/** Promise 8. */
public final class ReplaceTest {
    private static final Check CHECK = new Check("ReplaceTest");

    public static void main(String[] args) {
        isRebuildingFromRowZero();
        aSpareIsLiveAtOnce();
        aSpareAsThePowerGoes();
        saysFalse();
        CHECK.end();
    }

    private static void tells(GrowingArray x, int d, int... due) {
        for (int what = 0; what < due.length; what++) {
            CHECK.due("disk(" + d + ", " + what + ")", x.disk(d, what), due[what]);
        }
    }

    private static void isRebuildingFromRowZero() {
        GrowingArray x = Samples.growing(3, 4, 1, 2);
        x.write(0, Samples.valueAt(0));
        x.fail(0);
        int before = x.count(11);
        x.cut(0);
        CHECK.due("replace()", x.replace(), true);
        CHECK.due("it writes to no disk", x.count(5), 1);
        x.cut(-1);
        CHECK.due("count(11)", x.count(11), before);
        tells(x, 0, 2, 0, 0, 0, 0, 0);
        CHECK.due("count(7)", x.count(7), 0);
        CHECK.due("count(8)", x.count(8), 0);
        CHECK.due("sum()", x.sum(), Samples.sumOfValues(8));
        x.rebuild();
        CHECK.due("count(8)", x.count(8), 1);
    }

    private static void aSpareIsLiveAtOnce() {
        GrowingArray x = Samples.filled(3, 4);
        x.cut(0);
        x.write(0, Samples.valueAt(0));
        x.open();
        x.add();
        x.add();
        x.fail(3);
        int before = x.count(11);
        CHECK.due("replace() of a spare", x.replace(), true);
        tells(x, 3, 0, 1, 1, 2, 0, 0);
        CHECK.due("count(11)", x.count(11), before + 1);
        CHECK.due("count(9)", x.count(9), 2);
        CHECK.due("count(7)", x.count(7), -1);
        CHECK.due("rebuild()", x.rebuild(), -1);
        CHECK.due("grow()", x.grow(), 5);
    }

    private static void aSpareAsThePowerGoes() {
        GrowingArray x = Samples.filled(3, 4);
        x.add();
        x.fail(3);
        x.cut(0);
        CHECK.due("replace() as the power goes", x.replace(), false);
        CHECK.due("count(5)", x.count(5), 0);
        CHECK.due("count(13)", x.count(13), 1);
        tells(x, 3, 1, 1, 1, -1, -1, -1);
        x.open();
        tells(x, 3, 1, 1, 1, -1, -1, -1);
        CHECK.due("replace() once more", x.replace(), true);
        tells(x, 3, 0, 1, 1, 2, 0, 0);
    }

    private static void saysFalse() {
        GrowingArray x = Samples.filled(3, 4);
        CHECK.due("replace() with none failed", x.replace(), false);
        x.fail(1);
        x.cut(0);
        x.write(0, Samples.valueAt(0));
        CHECK.due("replace() while down", x.replace(), false);
        CHECK.due("disk(1, 0)", x.disk(1, 0), 1);
        x.open();
        CHECK.due("replace()", x.replace(), true);
        CHECK.due("replace() while rebuilding", x.replace(), false);
        CHECK.due("disk(1, 0)", x.disk(1, 0), 2);
    }
}
