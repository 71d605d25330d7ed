/** Promise 13. */
public final class DiskTest {
    private static final Check CHECK = new Check("DiskTest");

    public static void main(String[] args) {
        tellsOfEach();
        whileDown();
        wrongOnes();
        CHECK.end();
    }

    private static void tells(GrowingArray x, int d, int... due) {
        for (int what = 0; what < due.length; what++) {
            CHECK.due("disk(" + d + ", " + what + ")", x.disk(d, what), due[what]);
        }
    }

    private static void tellsOfEach() {
        GrowingArray x = new GrowingArray(3, 4);
        x.write(0, 1);
        x.add();
        tells(x, 0, 0, 0, 2, 1, 1, 0);
        tells(x, 1, 0, 0, 1, 1, 1, 0);
        tells(x, 2, 0, 0, 1, 1, 0, 0);
        tells(x, 3, 0, 1, 1, 1, 0, 0);
        x.grow();
        x.step();
        tells(x, 0, 0, 0, 6, 3, 1, 1);
        tells(x, 3, 0, 0, 5, 3, 0, 1);
        x.fail(0);
        tells(x, 0, 1, 0, 6, -1, -1, -1);
        x.write(0, 2);
        tells(x, 0, 1, 0, 6, -1, -1, -1);
        tells(x, 1, 0, 0, 6, 3, 2, 1);
        tells(x, 2, 0, 0, 6, 3, 2, 1);
        x.replace();
        tells(x, 0, 2, 0, 0, 0, 0, 0);
        x.rebuild();
        tells(x, 0, 2, 0, 1, 0, 0, 0);
        while (x.rebuild() == 1) {
            CHECK.due("disk(0, 3)", x.disk(0, 3), 0);
        }
        tells(x, 0, 0, 0, 5, 4, 0, 0);
    }

    private static void whileDown() {
        GrowingArray x = new GrowingArray(3, 4);
        x.add();
        x.cut(2);
        x.grow();
        tells(x, 0, 0, 0, 1, 2, 0, 0);
        tells(x, 1, 0, 0, 1, 2, 0, 0);
        tells(x, 2, 0, 0, 0, 1, 0, 0);
        tells(x, 3, 0, 1, 1, 1, 0, 0);
        x.fail(1);
        tells(x, 1, 1, 0, 1, -1, -1, -1);
    }

    private static void wrongOnes() {
        GrowingArray x = new GrowingArray(3, 4);
        int[] wrong = {-1, 3, 9, 10, Integer.MIN_VALUE, Integer.MAX_VALUE};
        for (int d : wrong) {
            tells(x, d, -1, -1, -1, -1, -1, -1);
        }
        int[] wrongWhat = {-1, 6, Integer.MIN_VALUE, Integer.MAX_VALUE};
        for (int what : wrongWhat) {
            CHECK.due("disk(0, " + what + ")", x.disk(0, what), -1);
        }
    }
}
