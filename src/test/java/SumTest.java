/** Promise 16. */
public final class SumTest {
    private static final Check CHECK = new Check("SumTest");

    public static void main(String[] args) {
        GrowingArray x = new GrowingArray(3, 2);
        CHECK.due("sum() of a new one", x.sum(), 0);
        x.write(3, 5);
        CHECK.due("sum()", x.sum(), 5);
        x.write(2, 2);
        CHECK.due("sum()", x.sum(), 67);
        x.write(0, 1);
        CHECK.due("sum()", x.sum(), 29791 + 67);
        x.write(0, Long.MAX_VALUE);
        CHECK.due("sum() going round", x.sum(), 29791L * Long.MAX_VALUE + 67);
        x.write(0, Long.MIN_VALUE);
        x.fail(0);
        CHECK.due("sum() without a disk", x.sum(), 29791L * Long.MIN_VALUE + 67);
        GrowingArray grown = Samples.growing(4, 48, 3, 48);
        CHECK.due("sum() of the places that came, too", grown.sum(), Samples.sumOfGrown(144, 288));
        GrowingArray down = Samples.down(3, 4);
        CHECK.thrown("sum() while down", IllegalStateException.class, down::sum);
        CHECK.end();
    }
}
