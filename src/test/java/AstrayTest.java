/** Promise 15. */
public final class AstrayTest {
    private static final Check CHECK = new Check("AstrayTest");

    public static void main(String[] args) {
        isZeroInOrdinaryRuns();
        aDiskOfTheArrayThatIsNotLive();
        aDiskThatTheArrayGrowsOver();
        aSpareThatIsNotLive();
        whileDown();
        CHECK.end();
    }

    private static void isNone(String when, GrowingArray x) {
        CHECK.leaves("astray() " + when, x, x::astray, -1);
    }

    private static void isZeroInOrdinaryRuns() {
        GrowingArray x = new GrowingArray(4, 6);
        CHECK.leaves("astray() of a new one", x, x::astray, 0);
        for (int a = 0; a < 18; a++) {
            x.write(a, Samples.valueAt(a));
            CHECK.due("astray()", x.astray(), 0);
        }
        x.add();
        x.grow();
        CHECK.leaves("astray() while reshaped", x, x::astray, 0);
        while (x.step() == 1) {
            CHECK.due("astray() while reshaped", x.astray(), 0);
        }
        CHECK.leaves("astray() once it is grown", x, x::astray, 0);
    }

    private static void aDiskOfTheArrayThatIsNotLive() {
        for (int d = 0; d < 4; d++) {
            GrowingArray x = Samples.filled(4, 6);
            x.fail(d);
            isNone("with a disk failed", x);
            x.replace();
            isNone("while rebuilding", x);
            while (x.rebuild() == 1) {
                CHECK.due("astray() while rebuilding", x.astray(), -1);
            }
            CHECK.due("astray() once it is rebuilt", x.astray(), 0);
        }
    }

    private static void aDiskThatTheArrayGrowsOver() {
        GrowingArray x = Samples.growing(3, 6, 2, 0);
        x.add();
        x.fail(4);
        isNone("without disk 4 of five", x);
        x.replace();
        isNone("while disk 4 of five is rebuilding", x);
        while (x.rebuild() == 1) {
            CHECK.due("astray() while disk 4 of five is rebuilding", x.astray(), -1);
        }
        CHECK.due("astray()", x.astray(), 0);
        x.fail(5);
        CHECK.due("astray() without the spare", x.astray(), 0);
    }

    private static void aSpareThatIsNotLive() {
        GrowingArray x = Samples.filled(4, 6);
        x.add();
        x.fail(4);
        CHECK.leaves("astray() with a spare failed", x, x::astray, 0);
        x.grow();
        isNone("once the array grows over it", x);
    }

    private static void whileDown() {
        GrowingArray x = Samples.filled(4, 6);
        x.cut(3);
        x.write(0, 12345);
        isNone("while down", x);
        x.fail(2);
        isNone("while down, a disk failed", x);
        x.open();
        isNone("with a disk failed", x);
        GrowingArray unharmed = Samples.down(4, 6);
        isNone("while down with nothing written", unharmed);
        unharmed.cut(0);
        unharmed.open();
        isNone("while down still", unharmed);
        unharmed.open();
        CHECK.due("astray() once it is opened", unharmed.astray(), 0);
    }
}
