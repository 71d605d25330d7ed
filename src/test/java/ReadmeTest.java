/** The run that README.md tells under 'Use'. */
public final class ReadmeTest {
    private static final Check CHECK = new Check("ReadmeTest");

    public static void main(String[] args) {
        GrowingArray x = new GrowingArray(3, 4);
        CHECK.due("count(4)", x.count(4), 8);
        CHECK.due("write(0, 11)", x.write(0, 11), true);
        CHECK.due("add()", x.add(), 4);
        CHECK.due("grow()", x.grow(), 4);
        for (int row = 0; row < 4; row++) {
            CHECK.due("step()", x.step(), row < 3 ? 1 : 2);
        }
        CHECK.due("read(0)", x.read(0), 11);

        x.cut(2);
        CHECK.due("write(0, 12)", x.write(0, 12), false);
        CHECK.due("fail(1)", x.fail(1), true);
        CHECK.due("open()", x.open(), 3);
        CHECK.due("read(0)", x.read(0), 12);
        CHECK.due("replace()", x.replace(), true);
        for (int row = 0; row < 4; row++) {
            CHECK.due("rebuild()", x.rebuild(), row < 3 ? 1 : 2);
        }
        CHECK.due("astray()", x.astray(), 0);
        CHECK.end();
    }
}
