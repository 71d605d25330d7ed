/** Promise 16. */
public final class SumTest {
    private static final Check CHECK = new Check("SumTest");

    public static void main(String[] args) {
        takesEachPlaceInOrder();
        goesRound();
        withADiskOut();
        amidAReshaping();
        refusesWhileDown();
        CHECK.end();
    }

    private static void takesEachPlaceInOrder() {
        GrowingArray x = new GrowingArray(3, 2);
        CHECK.leaves("sum() of a new one", x, x::sum, 0);
        x.write(3, 5);
        CHECK.due("sum()", x.sum(), 5);
        x.write(2, 2);
        CHECK.due("sum()", x.sum(), 67);
        x.write(0, 1);
        CHECK.due("sum()", x.sum(), 29791 + 67);
        x.write(1, -1);
        CHECK.due("sum()", x.sum(), 29791 - 961 + 67);
    }

    private static void goesRound() {
        GrowingArray x = new GrowingArray(3, 2);
        x.write(0, Long.MAX_VALUE);
        CHECK.due("sum() going round", x.sum(), 9223372036854746017L);
        x.write(0, Long.MIN_VALUE);
        CHECK.due("sum() going round", x.sum(), Long.MIN_VALUE);
        x.write(3, -1);
        CHECK.due("sum() going round below", x.sum(), Long.MAX_VALUE);
        for (int a = 0; a < 4; a++) {
            x.write(a, Long.MAX_VALUE);
        }
        CHECK.due("sum() of the greatest numbers", x.sum(), -30784L);
        for (int a = 0; a < 4; a++) {
            x.write(a, Long.MIN_VALUE);
        }
        CHECK.due("sum() of the least numbers", x.sum(), 0);
    }

    private static void withADiskOut() {
        for (int d = 0; d < 4; d++) {
            GrowingArray x = Samples.filled(4, 5);
            x.fail(d);
            CHECK.leaves("sum() without disk " + d, x, x::sum, Samples.sumOfValues(15));
            x.replace();
            x.rebuild();
            CHECK.leaves("sum() while disk " + d + " is rebuilding", x, x::sum, Samples.sumOfValues(15));
        }
    }

    private static void amidAReshaping() {
        GrowingArray x = Samples.growing(4, 48, 3, 0);
        for (int steps = 0; steps < 48; steps++) {
            CHECK.due("sum() behind " + steps + " steps", x.sum(), Samples.sumOfValues(144));
            x.step();
        }
        CHECK.due("sum() of the places that came, too", x.sum(), Samples.sumOfGrown(144, 288));
    }

    private static void refusesWhileDown() {
        GrowingArray x = Samples.down(3, 4);
        CHECK.refuses("sum() while down", IllegalStateException.class, x, x::sum);
        x.cut(0);
        x.open();
        CHECK.refuses("sum() while down still", IllegalStateException.class, x, x::sum);
        x.open();
        CHECK.due("sum() once it is opened", x.sum(), Samples.sumOfValues(8));
    }
}
