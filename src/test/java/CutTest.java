/** Promise 10. */
public final class CutTest {
    private static final Check CHECK = new Check("CutTest");

    public static void main(String[] args) {
        zeroGoesAtTheNextWrite();
        goesAtTheOneTooMany();
        holdsOverCalls();
        belowZeroItDoesNotGo();
        theLatestCounts();
        isNoWriteItself();
        isNotToldAnyMoreOnceItWent();
        holdsForAnOpening();
        CHECK.end();
    }

    private static void zeroGoesAtTheNextWrite() {
        GrowingArray x = Samples.filled(3, 4);
        int before = x.count(11);
        x.cut(0);
        CHECK.due("UP till a write comes", x.count(5), 1);
        CHECK.due("count(13)", x.count(13), 0);
        CHECK.due("read(0)", x.read(0), Samples.valueAt(0));
        CHECK.due("sum()", x.sum(), Samples.sumOfValues(8));
        CHECK.due("astray()", x.astray(), 0);
        CHECK.due("fail(0)", x.fail(0), true);
        CHECK.due("replace()", x.replace(), true);
        CHECK.due("UP still", x.count(5), 1);
        CHECK.due("the next write", x.rebuild(), 0);
        CHECK.due("DOWN", x.count(5), 0);
        CHECK.due("count(11)", x.count(11), before);
        CHECK.due("count(13)", x.count(13), 1);
    }

    private static void goesAtTheOneTooMany() {
        for (int n = 0; n < 4; n++) {
            GrowingArray x = new GrowingArray(3, 4);
            x.cut(n);
            CHECK.due("write at cut " + n, x.write(0, 1), false);
            CHECK.due("writes at cut " + n, x.count(11), n);
            CHECK.due("count(5) at cut " + n, x.count(5), 0);
            CHECK.due("count(13) at cut " + n, x.count(13), 1);
        }
        GrowingArray x = new GrowingArray(3, 4);
        x.cut(4);
        CHECK.due("a write of just so many", x.write(0, 1), true);
        CHECK.due("count(5)", x.count(5), 1);
        CHECK.due("count(13)", x.count(13), 0);
        CHECK.due("the next one", x.write(0, 2), false);
        CHECK.due("count(11)", x.count(11), 4);
        CHECK.due("count(13)", x.count(13), 1);
    }

    private static void holdsOverCalls() {
        GrowingArray x = new GrowingArray(3, 4);
        x.cut(9);
        x.add();
        CHECK.due("write()", x.write(0, 1), true);
        x.read(0);
        x.fail(1);
        CHECK.due("write() of three", x.write(0, 2), true);
        CHECK.due("the write that is cut", x.write(0, 3), false);
        CHECK.due("count(11)", x.count(11), 9);
    }

    private static void belowZeroItDoesNotGo() {
        int[] never = {-1, -2, -1000, Integer.MIN_VALUE};
        for (int n : never) {
            GrowingArray x = new GrowingArray(3, 4);
            x.cut(0);
            x.cut(n);
            for (int k = 0; k < 100; k++) {
                CHECK.due("write behind cut(" + n + ")", x.write(k % 8, k), true);
            }
            CHECK.due("count(13) behind cut(" + n + ")", x.count(13), 0);
        }
    }

    private static void theLatestCounts() {
        GrowingArray x = new GrowingArray(3, 4);
        x.cut(0);
        x.cut(Integer.MAX_VALUE);
        CHECK.due("write behind cut(2147483647)", x.write(0, 1), true);
        x.cut(1);
        x.cut(2);
        CHECK.due("the last cut() counts", x.write(0, 1), false);
        CHECK.due("count(11)", x.count(11), 6);
    }

    private static void isNoWriteItself() {
        int[] all = {0, 1, 1000, -1, Integer.MAX_VALUE, Integer.MIN_VALUE};
        GrowingArray x = Samples.growing(3, 4, 1, 1);
        String told = Samples.all(x);
        for (int n : all) {
            x.cut(n);
            CHECK.stays("cut(" + n + ")", x, told);
        }
        GrowingArray down = Samples.down(3, 4);
        String toldDown = Samples.all(down);
        for (int n : all) {
            down.cut(n);
            CHECK.stays("cut(" + n + ") while down", down, toldDown);
        }
    }

    private static void isNotToldAnyMoreOnceItWent() {
        GrowingArray x = new GrowingArray(3, 4);
        x.cut(0);
        x.write(0, 1);
        CHECK.due("open()", x.open(), 1);
        for (int k = 0; k < 100; k++) {
            CHECK.due("write()", x.write(0, 1), true);
        }
    }

    private static void holdsForAnOpening() {
        GrowingArray x = new GrowingArray(3, 4);
        x.write(0, 1);
        x.cut(0);
        x.write(0, 2);
        x.cut(10);
        CHECK.due("open() of seven writes", x.open(), 3);
        CHECK.due("write() with three left", x.write(0, 3), false);
        x.cut(6);
        CHECK.due("open() of seven writes with six", x.open(), 0);
        x.cut(0);
        x.cut(-1);
        CHECK.due("open() with the power staying", x.open() > 0, true);
        CHECK.due("count(13)", x.count(13), 3);
    }
}
