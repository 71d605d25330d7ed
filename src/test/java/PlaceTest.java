/** Promise 12. */
public final class PlaceTest {
    private static final Check CHECK = new Check("PlaceTest");

    public static void main(String[] args) {
        liesAsWrittenOut();
        amidAReshaping();
        whileDown();
        wrongOnes();
        CHECK.end();
    }

    private static void liesAt(GrowingArray x, int a, int... due) {
        for (int what = 0; what < due.length; what++) {
            CHECK.due("place(" + a + ", " + what + ")", x.place(a, what), due[what]);
        }
    }

    private static void liesAsWrittenOut() {
        GrowingArray x = new GrowingArray(4, 6);
        int[] disks = {0, 1, 2, 3, 0, 1, 2, 3, 0, 1, 2, 3, 0, 1, 2, 3, 0, 1};
        int[] parity = {3, 2, 1, 0, 3, 2};
        for (int a = 0; a < 18; a++) {
            liesAt(x, a, disks[a], a / 3, parity[a / 3], 0);
        }
    }

    private static void amidAReshaping() {
        GrowingArray x = Samples.growing(3, 6, 2, 2);
        liesAt(x, 0, 0, 0, 4, 1);
        liesAt(x, 3, 3, 0, 4, 1);
        liesAt(x, 4, 4, 1, 3, 1);
        liesAt(x, 5, 0, 1, 3, 1);
        liesAt(x, 7, 2, 1, 3, 1);
        liesAt(x, 8, 2, 4, 1, 0);
        liesAt(x, 9, 0, 4, 1, 0);
        liesAt(x, 11, 2, 5, 0, 0);
        liesAt(x, 12, -1, -1, -1, -1);
        x.step();
        liesAt(x, 11, 1, 2, 2, 1);
        while (x.step() == 1) {
            liesAt(x, 11, 1, 2, 2, 1);
        }
        liesAt(x, 11, 1, 2, 2, 0);
        liesAt(x, 23, 3, 5, 4, 0);
    }

    private static void whileDown() {
        GrowingArray x = Samples.growing(3, 6, 2, 1);
        x.cut(6);
        x.step();
        CHECK.due("count(5)", x.count(5), 0);
        liesAt(x, 4, 1, 2, 0, 0);
        x.open();
        CHECK.due("the step has ended with one SUPER, another one was made", x.count(3), 3);
        liesAt(x, 4, 4, 1, 3, 1);
        liesAt(x, 11, 1, 2, 2, 1);
    }

    private static void wrongOnes() {
        GrowingArray x = new GrowingArray(3, 4);
        int[] wrong = {-1, 8, 9, Integer.MIN_VALUE, Integer.MAX_VALUE};
        for (int a : wrong) {
            liesAt(x, a, -1, -1, -1, -1);
        }
        int[] wrongWhat = {-1, 4, Integer.MIN_VALUE, Integer.MAX_VALUE};
        for (int what : wrongWhat) {
            CHECK.due("place(0, " + what + ")", x.place(0, what), -1);
        }
    }
}
