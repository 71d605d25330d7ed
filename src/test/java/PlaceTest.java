/** Promise 12. */
public final class PlaceTest {
    private static final Check CHECK = new Check("PlaceTest");
    private static final int[] NO_WHAT = {-1, 4, 5, Integer.MIN_VALUE, Integer.MAX_VALUE};

    public static void main(String[] args) {
        liesAsWrittenOut();
        for (int n = 3; n <= 10; n++) {
            liesByTheGeometryOf(n);
        }
        amidAReshaping();
        onBothSidesOfTheFront();
        whileDown();
        whileDownBehindAnOpening();
        aPlaceThatIsNone();
        anotherWhat();
        CHECK.end();
    }

    private static void liesAt(GrowingArray x, int a, int... due) {
        for (int what = 0; what < due.length; what++) {
            CHECK.due("place(" + a + ", " + what + ")", x.place(a, what), due[what]);
        }
    }

    private static void isNone(GrowingArray x, int a) {
        liesAt(x, a, -1, -1, -1, -1);
    }

    private static void liesAsWrittenOut() {
        GrowingArray x = new GrowingArray(4, 6);
        int[] disks = {0, 1, 2, 3, 0, 1, 2, 3, 0, 1, 2, 3, 0, 1, 2, 3, 0, 1};
        int[] parity = {3, 2, 1, 0, 3, 2};
        for (int a = 0; a < 18; a++) {
            liesAt(x, a, disks[a], a / 3, parity[a / 3], 0);
        }
    }

    /** Walks the rows as the document tells them, with more rows than disks, so that all go round. */
    private static void liesByTheGeometryOf(int n) {
        int rows = n + 1;
        GrowingArray x = n <= 7 ? new GrowingArray(n, rows) : grown(7, rows, n - 7);
        int a = 0;
        int parity = n - 1;
        for (int row = 0; row < rows; row++) {
            int disk = parity;
            for (int k = 0; k < n - 1; k++) {
                disk = disk == n - 1 ? 0 : disk + 1;
                liesAt(x, a, disk, row, parity, 0);
                a++;
            }
            parity = parity == 0 ? n - 1 : parity - 1;
        }
        CHECK.due("count(4) of " + n + " disks", x.count(4), a);
        isNone(x, a);
    }

    private static GrowingArray grown(int disks, int rows, int spares) {
        GrowingArray x = new GrowingArray(disks, rows);
        for (int k = 0; k < spares; k++) {
            x.add();
        }
        x.grow();
        for (int k = 0; k < rows; k++) {
            x.step();
        }
        return x;
    }

    private static void amidAReshaping() {
        GrowingArray x = Samples.growing(3, 6, 2, 2);
        liesAt(x, 0, 0, 0, 4, 1);
        liesAt(x, 3, 3, 0, 4, 1);
        liesAt(x, 4, 4, 1, 3, 1);
        liesAt(x, 5, 0, 1, 3, 1);
        liesAt(x, 7, 2, 1, 3, 1);
        liesAt(x, 8, 2, 4, 1, 0);
        liesAt(x, 9, 0, 4, 1, 0);
        liesAt(x, 11, 2, 5, 0, 0);
        isNone(x, 12);
        x.step();
        liesAt(x, 11, 1, 2, 2, 1);
        while (x.step() == 1) {
            liesAt(x, 11, 1, 2, 2, 1);
            isNone(x, 12);
        }
        liesAt(x, 11, 1, 2, 2, 0);
        liesAt(x, 23, 3, 5, 4, 0);
        isNone(x, 24);
    }

    private static void onBothSidesOfTheFront() {
        GrowingArray x = Samples.growing(4, 7, 1, 0);
        for (int front = 0; front < 7; front++) {
            CHECK.due("count(3)", x.count(3), front);
            for (int a = 0; a < 21; a++) {
                CHECK.due("FRONT " + front + ": place(" + a + ", 3)", x.place(a, 3), a < front * 4 ? 1 : 0);
                CHECK.due("FRONT " + front + ": place(" + a + ", 1)", x.place(a, 1), a < front * 4 ? a / 4 : a / 3);
            }
            x.step();
        }
    }

    private static void whileDown() {
        GrowingArray x = Samples.growing(3, 6, 2, 1);
        x.cut(6);
        x.step();
        CHECK.due("count(5)", x.count(5), 0);
        liesAt(x, 3, 3, 0, 4, 1);
        liesAt(x, 4, 1, 2, 0, 0);
        liesAt(x, 11, 2, 5, 0, 0);
        isNone(x, -1);
        isNone(x, 12);
        x.open();
        CHECK.due("the step has ended with one SUPER, another one was made", x.count(3), 3);
        liesAt(x, 4, 4, 1, 3, 1);
        liesAt(x, 11, 1, 2, 2, 1);

        GrowingArray ending = Samples.growing(3, 4, 1, 3);
        ending.cut(7);
        ending.step();
        liesAt(ending, 7, 3, 2, 1, 1);
        isNone(ending, 8);
        ending.open();
        liesAt(ending, 8, 0, 2, 1, 0);
        liesAt(ending, 11, 3, 3, 0, 0);
        isNone(ending, 12);
    }

    private static void whileDownBehindAnOpening() {
        GrowingArray x = Samples.growing(3, 6, 2, 1);
        x.cut(6);
        x.step();
        x.cut(0);
        CHECK.due("open() as the power goes", x.open(), 0);
        liesAt(x, 4, 4, 1, 3, 1);
        liesAt(x, 8, 2, 4, 1, 0);
    }

    private static void aPlaceThatIsNone() {
        int[] wrong = {-1, -2, 8, 9, 100, Integer.MIN_VALUE, Integer.MAX_VALUE};
        GrowingArray x = new GrowingArray(3, 4);
        GrowingArray growing = Samples.growing(3, 4, 2, 2);
        GrowingArray down = Samples.down(3, 4);
        for (int a : wrong) {
            isNone(x, a);
            isNone(growing, a);
            isNone(down, a);
        }
    }

    private static void anotherWhat() {
        GrowingArray x = Samples.growing(3, 4, 2, 1);
        GrowingArray down = Samples.down(3, 4);
        for (int what : NO_WHAT) {
            for (int a = -1; a <= 8; a++) {
                CHECK.due("place(" + a + ", " + what + ")", x.place(a, what), -1);
                CHECK.due("place(" + a + ", " + what + ") while down", down.place(a, what), -1);
            }
        }
    }
}
