/** Promise 15. */
public final class AstrayTest {
    private static final Check CHECK = new Check("AstrayTest");

    public static void main(String[] args) {
        GrowingArray x = Samples.filled(4, 6);
        CHECK.due("astray()", x.astray(), 0);
        x.add();
        x.fail(4);
        CHECK.due("astray() with a spare failed", x.astray(), 0);
        x.replace();
        x.fail(1);
        CHECK.due("astray() with a disk failed", x.astray(), -1);
        x.replace();
        CHECK.due("astray() while rebuilding", x.astray(), -1);
        while (x.rebuild() == 1) {
            CHECK.due("astray() while rebuilding", x.astray(), -1);
        }
        CHECK.due("astray() once it is rebuilt", x.astray(), 0);
        x.grow();
        CHECK.due("astray() while reshaped", x.astray(), 0);
        while (x.step() == 1) {
            CHECK.due("astray() while reshaped", x.astray(), 0);
        }
        CHECK.due("astray() once it is grown", x.astray(), 0);
        x.cut(3);
        x.write(0, 12345);
        CHECK.due("astray() while down", x.astray(), -1);
        x.open();
        CHECK.due("astray() once it is opened", x.astray(), 0);
        CHECK.end();
    }
}
