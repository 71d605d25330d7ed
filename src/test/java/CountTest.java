/** Promise 14. */
public final class CountTest {
    private static final Check CHECK = new Check("CountTest");

    public static void main(String[] args) {
        tellsAll();
        tellsWhileDownAsItHeld();
        wrongOnes();
        CHECK.end();
    }

    private static void counts(String when, GrowingArray x, int... due) {
        for (int what = 0; what < due.length; what++) {
            CHECK.due(when + ": count(" + what + ")", x.count(what), due[what]);
        }
    }

    private static void tellsAll() {
        GrowingArray x = new GrowingArray(3, 4);
        x.write(3, 3);
        x.write(4, 4);
        counts("written", x, 3, 3, 3, 0, 8, 1, 0, -1, 0, 1, 2, 8, 0, 0, 4);
        x.add();
        counts("added", x, 4, 3, 3, 0, 8, 1, 0, -1, 0, 1, 2, 9, 0, 0, 4);
        x.grow();
        counts("growing", x, 4, 3, 4, 0, 8, 1, 1, -1, 0, 2, 2, 13, 0, 0, 4);
        x.step();
        counts("a step", x, 4, 3, 4, 1, 8, 1, 1, -1, 0, 3, 2, 25, 1, 0, 4);
        x.fail(1);
        counts("failed", x, 4, 3, 4, 1, 8, 1, 1, 1, 0, 3, 2, 25, 1, 0, 4);
        x.step();
        counts("a step without disk 1", x, 4, 3, 4, 2, 8, 1, 1, 1, 0, 4, 2, 34, 2, 0, 4);
        x.replace();
        x.rebuild();
        x.rebuild();
        counts("two rows rebuilt", x, 4, 3, 4, 2, 8, 1, 1, 1, 2, 4, 2, 36, 2, 0, 4);
        x.rebuild();
        x.rebuild();
        counts("all rows rebuilt", x, 4, 3, 4, 2, 8, 1, 1, -1, 0, 5, 2, 42, 2, 0, 4);
        x.step();
        x.step();
        counts("grown", x, 4, 4, 4, 0, 12, 1, 0, -1, 0, 7, 2, 58, 4, 0, 4);
    }

    private static void tellsWhileDownAsItHeld() {
        GrowingArray x = Samples.growing(3, 4, 1, 3);
        String before = Samples.held(x);
        int writes = x.count(11);
        x.cut(5);
        x.step();
        CHECK.isTrue("as it held", before.equals(Samples.held(x)));
        CHECK.due("count(5)", x.count(5), 0);
        CHECK.due("count(11)", x.count(11), writes + 5);
        CHECK.due("count(13)", x.count(13), 1);
        x.fail(2);
        CHECK.due("count(7)", x.count(7), 2);
        CHECK.isTrue("as it held", before.equals(Samples.held(x)));
    }

    private static void wrongOnes() {
        GrowingArray x = new GrowingArray(3, 4);
        int[] wrong = {-1, 15, Integer.MIN_VALUE, Integer.MAX_VALUE};
        for (int what : wrong) {
            CHECK.due("count(" + what + ")", x.count(what), -1);
        }
    }
}
