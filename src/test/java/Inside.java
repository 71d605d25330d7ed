import java.lang.reflect.Field;

/** The blocks themselves, for the few sentences that no answer of the face can show. */
final class Inside {
    private Inside() {
    }

    private static Object field(Class<?> of, Object from, String name) {
        try {
            Field found = of.getDeclaredField(name);
            found.setAccessible(true);
            return found.get(from);
        } catch (ReflectiveOperationException e) {
            throw new IllegalStateException("GrowingArray holds its blocks another way by now", e);
        }
    }

    private static long[] blocks(GrowingArray x, int d) {
        Object disk = ((Object[]) field(GrowingArray.class, x, "disks"))[d];
        return (long[]) field(disk.getClass(), disk, "blocks");
    }

    static long block(GrowingArray x, int d, int row) {
        return blocks(x, d)[row];
    }

    static void spoil(GrowingArray x, int d, int row) {
        blocks(x, d)[row] ^= 1L << 63;
    }
}
