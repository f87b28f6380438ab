import java.lang.reflect.Field;

/** The private rows of an object: tests look at its nodes, and spoil them to see whether check() sees it. */
final class Inside {
    final SharedTrees x;
    final int[] ways, levels, sizes, keys, goals, free;
    private final Object blocks;

    Inside(SharedTrees x) {
        this.x = x;
        blocks = value(x, "blocks");
        ways = row(blocks, "ways");
        levels = row(blocks, "levels");
        sizes = row(blocks, "sizes");
        keys = row(blocks, "entryKeys");
        goals = row(blocks, "entryGoals");
        free = row(blocks, "free");
    }

    int width() {
        return keys.length / ways.length;
    }

    /** Those of the maps "now", or "kept". */
    int[] roots(String maps) {
        return row(value(x, maps), "roots");
    }

    int[] counts(String maps) {
        return row(value(x, maps), "counts");
    }

    int total(String maps) {
        return (Integer) value(value(x, maps), "total");
    }

    void setTotal(String maps, int total) {
        set(value(x, maps), "total", total);
    }

    int freeCount() {
        return (Integer) value(blocks, "freeCount");
    }

    void setFreeCount(int count) {
        set(blocks, "freeCount", count);
    }

    int usedBlocks() {
        int used = 0;
        for (int way : ways) {
            used += way > 0 ? 1 : 0;
        }
        return used;
    }

    int mostEntries() {
        int most = 0;
        for (int block = 1; block < ways.length; block++) {
            most = ways[block] > 0 ? Math.max(most, sizes[block]) : most;
        }
        return most;
    }

    private static int[] row(Object owner, String name) {
        return (int[]) value(owner, name);
    }

    private static Object value(Object owner, String name) {
        try {
            return field(owner, name).get(owner);
        } catch (ReflectiveOperationException e) {
            throw new IllegalStateException(name, e);
        }
    }

    private static void set(Object owner, String name, int number) {
        try {
            field(owner, name).setInt(owner, number);
        } catch (ReflectiveOperationException e) {
            throw new IllegalStateException(name, e);
        }
    }

    private static Field field(Object owner, String name) throws ReflectiveOperationException {
        Field field = owner.getClass().getDeclaredField(name);
        field.setAccessible(true);
        return field;
    }
}
