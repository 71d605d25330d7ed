/** Promise 15. */
public final class AstrayTest {
    private static final Check CHECK = new Check("AstrayTest");

    public static void main(String[] args) {
        isZeroInOrdinaryRuns();
        aDiskOfTheArrayThatIsNotLive();
        aDiskThatTheArrayGrowsOver();
        aSpareThatIsNotLive();
        whileDown();
        countsRowsThatAreSpoilt();
        countsByTheGeometryThatHolds();
        CHECK.end();
    }

    private static void isNone(String when, GrowingArray x) {
        CHECK.leaves("astray() " + when, x, x::astray, -1);
    }

    private static void isZeroInOrdinaryRuns() {
        GrowingArray x = new GrowingArray(4, 6);
        CHECK.leaves("astray() of a new one", x, x::astray, 0);
        for (int a = 0; a < 18; a++) {
            x.write(a, Samples.valueAt(a));
            CHECK.due("astray()", x.astray(), 0);
        }
        x.add();
        x.grow();
        CHECK.leaves("astray() while reshaped", x, x::astray, 0);
        while (x.step() == 1) {
            CHECK.due("astray() while reshaped", x.astray(), 0);
        }
        CHECK.leaves("astray() once it is grown", x, x::astray, 0);
    }

    private static void aDiskOfTheArrayThatIsNotLive() {
        for (int d = 0; d < 4; d++) {
            GrowingArray x = Samples.filled(4, 6);
            x.fail(d);
            isNone("with a disk failed", x);
            x.replace();
            isNone("while rebuilding", x);
            while (x.rebuild() == 1) {
                isNone("while rebuilding", x);
            }
            CHECK.due("astray() once it is rebuilt", x.astray(), 0);
        }
    }

    private static void aDiskThatTheArrayGrowsOver() {
        GrowingArray x = Samples.growing(3, 6, 2, 0);
        x.add();
        x.fail(4);
        isNone("without disk 4 of five", x);
        x.replace();
        isNone("while disk 4 of five is rebuilding", x);
        while (x.rebuild() == 1) {
            isNone("while disk 4 of five is rebuilding", x);
        }
        CHECK.due("astray()", x.astray(), 0);
        x.fail(5);
        CHECK.due("astray() without the spare", x.astray(), 0);
    }

    private static void aSpareThatIsNotLive() {
        GrowingArray x = Samples.filled(4, 6);
        x.add();
        x.fail(4);
        CHECK.leaves("astray() with a spare failed", x, x::astray, 0);
        x.grow();
        isNone("once the array grows over it", x);
    }

    private static void whileDown() {
        GrowingArray x = Samples.filled(4, 6);
        x.cut(3);
        x.write(0, 12345);
        isNone("while down", x);
        x.fail(2);
        isNone("while down, a disk failed", x);
        x.open();
        isNone("with a disk failed", x);
        GrowingArray unharmed = Samples.down(4, 6);
        isNone("while down with nothing written", unharmed);
        unharmed.cut(0);
        unharmed.open();
        isNone("while down still", unharmed);
        unharmed.open();
        CHECK.due("astray() once it is opened", unharmed.astray(), 0);
    }

    /** No run of calls leads there, so blocks are changed behind the face's back. */
    private static void countsRowsThatAreSpoilt() {
        for (int d = 0; d < 4; d++) {
            GrowingArray x = Samples.filled(4, 6);
            for (int row = 0; row < 6; row++) {
                Inside.spoil(x, d, row);
                CHECK.due("astray() with rows 0 to " + row + " of disk " + d + " spoilt", x.astray(), row + 1);
            }
            Inside.spoil(x, (d + 1) % 4, 2);
            CHECK.due("astray() with a row spoilt twice alike", x.astray(), 5);
        }
    }

    private static void countsByTheGeometryThatHolds() {
        GrowingArray x = Samples.growing(3, 6, 2, 2);
        Inside.spoil(x, 4, 1);
        CHECK.due("astray() with a row by M spoilt", x.astray(), 1);
        Inside.spoil(x, 4, 2);
        CHECK.due("a row by N has no block on disk 4", x.astray(), 1);
        Inside.spoil(x, 2, 5);
        CHECK.due("astray() with a row by N spoilt, too", x.astray(), 2);
    }
}
