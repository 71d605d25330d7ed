/** Arrays in the states that several tests begin from. */
final class Samples {
    private Samples() {
    }

    static long valueAt(int a) {
        return 1000003L * (a + 1) ^ (long) a << 40;
    }

    static GrowingArray filled(int disks, int rows) {
        GrowingArray x = new GrowingArray(disks, rows);
        int places = x.count(4);
        for (int a = 0; a < places; a++) {
            x.write(a, valueAt(a));
        }
        return x;
    }

    static GrowingArray growing(int disks, int rows, int spares, int steps) {
        GrowingArray x = filled(disks, rows);
        for (int k = 0; k < spares; k++) {
            x.add();
        }
        x.grow();
        for (int k = 0; k < steps; k++) {
            x.step();
        }
        return x;
    }

    static GrowingArray down(int disks, int rows) {
        GrowingArray x = filled(disks, rows);
        x.cut(0);
        x.write(0, valueAt(0));
        return x;
    }

    static long sumOfValues(int places) {
        return sumWith(places, -1, 0);
    }

    /** The sum as it is if one place has another number. */
    static long sumWith(int places, int changed, long v) {
        long total = 0;
        for (int a = 0; a < places; a++) {
            total = 31 * total + (a == changed ? v : valueAt(a));
        }
        return total;
    }

    /** That of an array that was filled with so many places and has more by now. */
    static long sumOfGrown(int filledPlaces, int places) {
        long total = sumOfValues(filledPlaces);
        for (int a = filledPlaces; a < places; a++) {
            total = 31 * total;
        }
        return total;
    }

    /** All that is told of the array and its places while DOWN as it held before. */
    static String held(GrowingArray x) {
        StringBuilder text = new StringBuilder();
        int[] told = {0, 1, 2, 3, 4, 6, 8, 9, 12, 14};
        for (int what : told) {
            text.append(what).append(':').append(x.count(what)).append(' ');
        }
        int places = x.count(4);
        for (int a = -1; a <= places; a++) {
            placeTold(text, x, a);
        }
        int disks = x.count(0);
        for (int d = 0; d < disks; d++) {
            text.append(x.disk(d, 1));
        }
        return text.toString();
    }

    private static void placeTold(StringBuilder text, GrowingArray x, int a) {
        for (int what = 0; what < 4; what++) {
            text.append(x.place(a, what)).append(',');
        }
    }

    /**
     * What the face tells, for tests that nothing changes. Of the places only those at the ends:
     * an object has 512 calls, and where the others lie follows from N, M and FRONT.
     */
    static String all(GrowingArray x) {
        StringBuilder text = new StringBuilder();
        for (int what = 0; what < 15; what++) {
            text.append(x.count(what)).append(' ');
        }
        int disks = x.count(0);
        for (int d = 0; d < disks; d++) {
            for (int what = 0; what < 6; what++) {
                text.append(x.disk(d, what)).append(' ');
            }
        }
        placeTold(text, x, 0);
        placeTold(text, x, x.count(4) - 1);
        text.append(' ').append(x.astray());
        if (x.count(5) == 1) {
            text.append(' ').append(x.sum());
        }
        return text.toString();
    }
}
