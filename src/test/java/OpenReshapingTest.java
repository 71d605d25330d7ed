/** Promise 11, (2): what an opening does with a reshaping. */
public final class OpenReshapingTest {
    private static final Check CHECK = new Check("OpenReshapingTest");

    public static void main(String[] args) {
        endsACriticalStep();
        leavesACriticalRowWithoutABackup();
        makesAStepThatIsNotCritical();
        makesAStepAtTheBoundAlone();
        endsTheReshaping();
        isDownStillAtEachWrite();
        CHECK.end();
    }

    private static void endsACriticalStep() {
        for (int n = 0; n < 15; n++) {
            GrowingArray x = Samples.growing(4, 5, 1, 1);
            int sequence = x.count(9);
            x.cut(n);
            CHECK.due("step() at cut " + n, x.step(), 0);
            CHECK.due("count(3) while down", x.count(3), 1);
            CHECK.due("count(12) while down", x.count(12), 1);
            int before = x.count(11);
            boolean ended = n > 10;
            boolean backedUp = n > 0 && !ended;
            CHECK.due("open() at cut " + n, x.open(), backedUp ? 5 : 1);
            int writes = backedUp ? 15 : ended ? 5 + (15 - n) : 5;
            CHECK.due("writes at cut " + n, x.count(11), before + writes);
            CHECK.due("count(3) at cut " + n, x.count(3), n == 0 ? 1 : 2);
            CHECK.due("count(9) at cut " + n, x.count(9), sequence + (ended ? 2 : 1));
            CHECK.due("count(12) at cut " + n, x.count(12), backedUp ? 2 : 1);
            CHECK.due("astray() at cut " + n, x.astray(), 0);
            CHECK.due("sum() at cut " + n, x.sum(), Samples.sumOfValues(15));
        }
    }

    private static void leavesACriticalRowWithoutABackup() {
        GrowingArray x = Samples.growing(4, 5, 1, 1);
        x.cut(0);
        x.write(0, 1);
        int before = x.count(11);
        CHECK.due("open() ahead of a critical row", x.open(), 1);
        CHECK.due("writes", x.count(11), before + 5);
        CHECK.due("count(3)", x.count(3), 1);
        CHECK.due("count(6)", x.count(6), 1);
        CHECK.due("count(12)", x.count(12), 1);
        CHECK.due("step()", x.step(), 1);
        CHECK.due("sum()", x.sum(), Samples.sumOfValues(15));
    }

    private static void makesAStepThatIsNotCritical() {
        GrowingArray x = Samples.growing(3, 8, 2, 2);
        x.cut(0);
        x.write(0, Samples.valueAt(0));
        int before = x.count(11);
        CHECK.due("open() of a reshaping", x.open(), 5);
        CHECK.due("count(3)", x.count(3), 3);
        CHECK.due("writes", x.count(11), before + 10);
        x.write(3, Samples.valueAt(3));
        x.cut(4);
        x.step();
        CHECK.due("open() with a journal, too", x.open(), 7);
        CHECK.due("count(3)", x.count(3), 4);
        CHECK.due("count(12)", x.count(12), 4);
        CHECK.due("sum()", x.sum(), Samples.sumOfValues(16));
    }

    /** 5 and 7 disks: FRONT 1 is CRITICAL, at FRONT 2 (M - N) is N - 1 and it is not. */
    private static void makesAStepAtTheBoundAlone() {
        for (int front = 0; front < 4; front++) {
            GrowingArray x = Samples.growing(5, 6, 2, front);
            x.cut(0);
            x.add();
            int answer = front < 2 ? 1 : 5;
            CHECK.due("open() at FRONT " + front, x.open(), answer);
            CHECK.due("count(3) from FRONT " + front, x.count(3), front < 2 ? front : front + 1);
            CHECK.due("sum() from FRONT " + front, x.sum(), Samples.sumOfValues(24));
        }
    }

    private static void endsTheReshaping() {
        GrowingArray x = Samples.growing(3, 4, 2, 3);
        x.fail(4);
        x.replace();
        x.cut(0);
        x.rebuild();
        CHECK.due("count(4) while down", x.count(4), 8);
        CHECK.due("open()", x.open(), 5);
        CHECK.due("count(1)", x.count(1), 5);
        CHECK.due("count(3)", x.count(3), 0);
        CHECK.due("count(4)", x.count(4), 16);
        CHECK.due("count(6)", x.count(6), 0);
        CHECK.due("disk(4, 0)", x.disk(4, 0), 2);
        CHECK.due("sum()", x.sum(), Samples.sumOfGrown(8, 16));

        // The last row of two is CRITICAL here, too.
        GrowingArray critical = Samples.growing(4, 2, 1, 1);
        critical.cut(7);
        critical.step();
        CHECK.due("open() with the last row's backup", critical.open(), 5);
        CHECK.due("count(1)", critical.count(1), 5);
        CHECK.due("count(6)", critical.count(6), 0);
        CHECK.due("sum()", critical.sum(), Samples.sumOfGrown(6, 8));
    }

    private static void isDownStillAtEachWrite() {
        // Two journals, a block and a parity of a row by M, five blocks of the step, five SUPERS.
        int writes = 14;
        for (int n = 0; n <= writes; n++) {
            GrowingArray x = Samples.growing(3, 8, 2, 2);
            x.write(3, Samples.valueAt(3));
            x.cut(0);
            x.step();
            String held = Samples.held(x);
            int before = x.count(11);
            x.cut(n);
            CHECK.due("open() at cut " + n, x.open(), n < writes ? 0 : 7);
            CHECK.due("count(5) at cut " + n, x.count(5), n < writes ? 0 : 1);
            CHECK.due("count(11) at cut " + n, x.count(11), before + n);
            CHECK.due("count(13) at cut " + n, x.count(13), n < writes ? 2 : 1);
            CHECK.due("told as it held at cut " + n, held.equals(Samples.held(x)), n < writes);
            // None is told any more: the next opening has all the power it needs.
            CHECK.due("open() again behind cut " + n, x.open(), n == writes ? -1 : n > 9 ? 5 : 7);
            CHECK.due("count(3) behind cut " + n, x.count(3), n > 9 && n < writes ? 4 : 3);
            CHECK.due("sum() behind cut " + n, x.sum(), Samples.sumOfValues(16));
        }
    }
}
