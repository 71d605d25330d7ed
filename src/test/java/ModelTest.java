import java.util.Random;
import java.util.function.LongSupplier;

/** Every call of random runs answers, or throws, as it does in the Model; wrong arguments too. */
public final class ModelTest {
    private static final Check CHECK = new Check("ModelTest");
    private static final int RUNS = 5000;
    private static final int CALLS = 500;

    private final Random random;
    private final GrowingArray x;
    private final Model model;
    private final String run;

    private ModelTest(long seed) {
        random = new Random(seed);
        int disks = random.nextInt(20) == 0 ? random.nextInt() : 3 + random.nextInt(5);
        int rows = random.nextInt(20) == 0 ? random.nextInt() : 2 + random.nextInt(random.nextInt(6) == 0 ? 47 : 5);
        run = "run " + seed + ", new(" + disks + ", " + rows + "), ";
        x = new GrowingArray(disks, rows);
        model = new Model(disks, rows);
    }

    public static void main(String[] args) {
        for (long seed = 1; seed <= RUNS; seed++) {
            new ModelTest(seed).go();
        }
        CHECK.end();
    }

    private void go() {
        // Some runs lose power often, some grow often, so that each gets far in its own way.
        int cuts = 1 + random.nextInt(12);
        int grows = 1 + random.nextInt(12);
        for (int k = 0; k < CALLS; k++) {
            if (random.nextInt(3) > 0) {
                act(k, random.nextInt(40), cuts, grows);
            } else {
                look(k);
            }
        }
    }

    private void same(int k, String call, LongSupplier got, LongSupplier want) {
        CHECK.due(run + "call " + k + ": " + call, answer(got), answer(want));
    }

    /** What is thrown counts as a number that no call of these runs answers. */
    private static long answer(LongSupplier call) {
        try {
            return call.getAsLong();
        } catch (IllegalStateException e) {
            return 0x7a7a7a7a7a7a7a01L;
        } catch (IndexOutOfBoundsException e) {
            return e.getClass() == IndexOutOfBoundsException.class ? 0x7a7a7a7a7a7a7a02L : 0x7a7a7a7a7a7a7a03L;
        }
    }

    private int about(int bound) {
        return random.nextInt(60) == 0 ? random.nextInt() : random.nextInt(bound + 2) - 1;
    }

    private void act(int k, int kind, int cuts, int grows) {
        if (kind < cuts) {
            int n = random.nextInt(6) == 0 ? -1 - random.nextInt(3) : random.nextInt(random.nextBoolean() ? 5 : 45);
            x.cut(n);
            model.cut(n);
        } else if (kind < 12) {
            int a = about(model.count(4));
            long v = random.nextLong();
            same(k, "write(" + a + ")", () -> x.write(a, v) ? 1 : 0, () -> model.write(a, v) ? 1 : 0);
        } else if (kind < 12 + grows) {
            boolean adds = random.nextInt(4) > 0 && model.count(0) < 6 || random.nextInt(8) == 0;
            same(k, adds ? "add()" : "grow()", adds ? x::add : x::grow, adds ? model::add : model::grow);
        } else if (kind < 26) {
            same(k, "step()", x::step, model::step);
        } else if (kind < 32) {
            same(k, "rebuild()", x::rebuild, model::rebuild);
        } else if (kind < 35) {
            int d = about(model.count(0));
            same(k, "fail(" + d + ")", () -> x.fail(d) ? 1 : 0, () -> model.fail(d) ? 1 : 0);
        } else if (kind < 37) {
            same(k, "replace()", () -> x.replace() ? 1 : 0, () -> model.replace() ? 1 : 0);
        } else {
            same(k, "open()", x::open, model::open);
        }
    }

    private void look(int k) {
        int what = about(6);
        switch (random.nextInt(7)) {
            case 0: same(k, "sum()", x::sum, model::sum); break;
            case 1: same(k, "astray()", x::astray, model::astray); break;
            case 2:
                int a = about(model.count(4));
                same(k, "read(" + a + ")", () -> x.read(a), () -> model.read(a));
                break;
            case 3:
                int b = about(model.count(4));
                same(k, "place(" + b + ", " + what + ")", () -> x.place(b, what), () -> model.place(b, what));
                break;
            case 4:
                int d = about(model.count(0));
                same(k, "disk(" + d + ", " + what + ")", () -> x.disk(d, what), () -> model.disk(d, what));
                break;
            default:
                int which = about(15);
                same(k, "count(" + which + ")", () -> x.count(which), () -> model.count(which));
                break;
        }
    }
}
