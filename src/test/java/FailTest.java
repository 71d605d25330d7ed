/** Promise 7. */
public final class FailTest {
    private static final Check CHECK = new Check("FailTest");

    public static void main(String[] args) {
        oneAtATime();
        aSpareFails();
        whileDown();
        CHECK.end();
    }

    private static void oneAtATime() {
        GrowingArray x = Samples.filled(3, 4);
        int[] wrong = {-1, 3, 9, 10, Integer.MIN_VALUE, Integer.MAX_VALUE};
        for (int d : wrong) {
            CHECK.due("fail(" + d + ")", x.fail(d), false);
        }
        CHECK.due("count(7)", x.count(7), -1);
        int before = x.count(11);
        CHECK.due("fail(2)", x.fail(2), true);
        CHECK.due("disk(2, 0)", x.disk(2, 0), 1);
        CHECK.due("count(7)", x.count(7), 2);
        CHECK.due("a failing disk counts no write", x.count(11), before);
        CHECK.due("fail(2) again", x.fail(2), false);
        CHECK.due("fail(0) with disk 2 failed", x.fail(0), false);
        x.replace();
        CHECK.due("fail(0) while disk 2 is rebuilding", x.fail(0), false);
        CHECK.due("fail(2) while it is rebuilding", x.fail(2), false);
        while (x.rebuild() == 1) {
            CHECK.due("fail(1) while disk 2 is rebuilding", x.fail(1), false);
        }
        CHECK.due("fail(0) once all are live", x.fail(0), true);
        CHECK.due("sum()", x.sum(), Samples.sumOfValues(8));
    }

    private static void aSpareFails() {
        GrowingArray x = Samples.filled(3, 4);
        CHECK.due("fail(3) ahead of add()", x.fail(3), false);
        x.add();
        CHECK.due("fail(3)", x.fail(3), true);
        CHECK.due("count(7)", x.count(7), 3);
        CHECK.due("fail(0) with a spare failed", x.fail(0), false);
        CHECK.due("astray() with a spare failed", x.astray(), 0);
    }

    private static void whileDown() {
        GrowingArray x = Samples.down(3, 4);
        CHECK.due("fail(1) while down", x.fail(1), true);
        CHECK.due("disk(1, 0)", x.disk(1, 0), 1);
        CHECK.due("fail(0) while down", x.fail(0), false);
        x.open();
        CHECK.due("count(7)", x.count(7), 1);
        CHECK.due("sum()", x.sum(), Samples.sumOfValues(8));

        GrowingArray rebuilding = Samples.filled(3, 4);
        rebuilding.fail(0);
        rebuilding.replace();
        rebuilding.cut(0);
        rebuilding.rebuild();
        CHECK.due("fail(1) while down and rebuilding", rebuilding.fail(1), false);
    }
}
