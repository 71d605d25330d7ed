import java.util.Arrays;
import java.util.Random;

/** Runs of calls against a shadow that knows the values and what a write has to write. */
public final class RandomRunsTest {
    private static final Check CHECK = new Check("RandomRunsTest");
    // So many that an object's calls, those that look at it too, stay below 512.
    private static final int ACTS = 30;

    private final Random random;
    private final GrowingArray x;
    private long[] values;
    private String made = "new";

    private RandomRunsTest(long seed) {
        random = new Random(seed);
        x = new GrowingArray(3 + random.nextInt(5), 2 + random.nextInt(4));
        values = new long[x.count(4)];
    }

    public static void main(String[] args) {
        for (long seed = 1; seed <= 20000; seed++) {
            new RandomRunsTest(seed).go();
        }
        CHECK.end();
    }

    private void go() {
        for (int k = 0; k < ACTS; k++) {
            if (x.count(5) == 1) {
                actWhileUp();
            } else {
                actWhileDown();
            }
            if (x.count(5) == 1 && x.count(4) != values.length) {
                values = Arrays.copyOf(values, x.count(4));
            }
            looksRight();
        }
    }

    private void actWhileUp() {
        switch (random.nextInt(13)) {
            case 0: made = "cut"; x.cut(random.nextInt(30) - 3); break;
            case 1: made = "add"; x.add(); break;
            case 2: made = "grow"; x.grow(); break;
            case 3: made = "fail"; x.fail(random.nextInt(11) - 1); break;
            case 4: made = "replace"; x.replace(); break;
            case 5: case 6: case 7: made = "rebuild"; x.rebuild(); break;
            case 8: case 9: made = "step"; x.step(); break;
            default: write(); break;
        }
    }

    private void actWhileDown() {
        switch (random.nextInt(4)) {
            case 0: made = "fail while down"; x.fail(random.nextInt(10)); break;
            case 1: made = "cut while down"; x.cut(random.nextInt(40) - 3); break;
            default: made = "open"; x.open(); break;
        }
    }

    private void write() {
        int a = random.nextInt(values.length);
        long v = random.nextLong();
        made = "write(" + a + ")";
        int before = x.count(11);
        int row = x.place(a, 1);
        int due = 2 + written(x.place(a, 0), row) + written(x.place(a, 2), row);
        if (x.write(a, v)) {
            values[a] = v;
            CHECK.due("writes of " + made, x.count(11) - before, due);
            return;
        }
        if (random.nextBoolean()) {
            x.fail(random.nextInt(x.count(0)));
        }
        for (int tries = 0; tries < 3; tries++) {
            x.cut(tries == 2 || random.nextBoolean() ? -1 : random.nextInt(30));
            x.open();
        }
        long found = x.read(a);
        CHECK.isTrue("a write that was cut is whole or not at all", found == v || found == values[a]);
        values[a] = found;
    }

    private int written(int d, int row) {
        int condition = x.disk(d, 0);
        return condition == 0 || condition == 2 && row < x.count(8) ? 1 : 0;
    }

    private void looksRight() {
        int out = x.count(7);
        boolean up = x.count(5) == 1;
        boolean whole = out == GrowingArray.NONE || x.disk(out, 1) == 1;
        CHECK.due("astray() behind " + made, x.astray(), up && whole ? 0 : -1);
        if (!up) {
            return;
        }
        long sum = 0;
        for (long v : values) {
            sum = 31 * sum + v;
        }
        CHECK.due("sum() behind " + made, x.sum(), sum);
        int d = random.nextInt(x.count(0));
        if (d != out) {
            CHECK.due("disk(" + d + ", 3) behind " + made, x.disk(d, 3), x.count(9));
        }
    }
}
