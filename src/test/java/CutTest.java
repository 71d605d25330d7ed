/** Promise 10. */
public final class CutTest {
    private static final Check CHECK = new Check("CutTest");

    public static void main(String[] args) {
        goesAtTheOneTooMany();
        holdsOverCalls();
        isTakenBack();
        isNotToldAnyMoreOnceItWent();
        CHECK.end();
    }

    private static void goesAtTheOneTooMany() {
        for (int n = 0; n < 4; n++) {
            GrowingArray x = new GrowingArray(3, 4);
            x.cut(n);
            CHECK.due("write at cut " + n, x.write(0, 1), false);
            CHECK.due("writes at cut " + n, x.count(11), n);
            CHECK.due("count(5) at cut " + n, x.count(5), 0);
            CHECK.due("count(13) at cut " + n, x.count(13), 1);
        }
        GrowingArray x = new GrowingArray(3, 4);
        x.cut(4);
        CHECK.due("a write of just so many", x.write(0, 1), true);
        CHECK.due("count(5)", x.count(5), 1);
        CHECK.due("the next one", x.write(0, 2), false);
        CHECK.due("count(11)", x.count(11), 4);
    }

    private static void holdsOverCalls() {
        GrowingArray x = new GrowingArray(3, 4);
        x.cut(9);
        x.add();
        CHECK.due("write()", x.write(0, 1), true);
        x.read(0);
        x.fail(1);
        CHECK.due("write() of three", x.write(0, 2), true);
        CHECK.due("the write that is cut", x.write(0, 3), false);
        CHECK.due("count(11)", x.count(11), 9);
    }

    private static void isTakenBack() {
        int[] never = {-1, -2, Integer.MIN_VALUE};
        for (int n : never) {
            GrowingArray x = new GrowingArray(3, 4);
            x.cut(0);
            x.cut(n);
            CHECK.due("write behind cut(" + n + ")", x.write(0, 1), true);
        }
        GrowingArray x = new GrowingArray(3, 4);
        x.cut(0);
        x.cut(Integer.MAX_VALUE);
        CHECK.due("write behind cut(2147483647)", x.write(0, 1), true);
        x.cut(1);
        CHECK.due("the last cut() counts", x.write(0, 1), false);
    }

    private static void isNotToldAnyMoreOnceItWent() {
        GrowingArray x = new GrowingArray(3, 4);
        x.cut(0);
        x.write(0, 1);
        CHECK.due("open()", x.open(), 1);
        CHECK.due("write()", x.write(0, 1), true);
        x.cut(0);
        x.write(0, 2);
        x.cut(10);
        CHECK.due("open() of seven writes", x.open(), 3);
        CHECK.due("write() with three left", x.write(0, 3), false);
    }
}
