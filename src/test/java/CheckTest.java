import java.lang.reflect.Field;

/** check() sees what is not as it should be: each case spoils one number inside a sound object. */
public final class CheckTest {
    private static final Due due = new Due();

    public static void main(String[] args) throws ReflectiveOperationException {
        for (int m : new int[] {4, 5, 12, 31}) {
            everyCount(m);
            everyLevel(m);
            everySize(m);
            everyKeyAndGoal(m);
            everyMap(m);
            freeBlocks(m);
        }
        faultsWhereTheRestAgrees();
        due.end();
    }

    /* Trees that are shared, changed and kept, of which some blocks are free again. */
    private static SharedTrees sound(int m) {
        SharedTrees x = new SharedTrees(m);
        x.spread(0, 0, 3, 120, 1);
        x.clone(1, 0);
        x.spread(1, 100, 2, 40, 7);
        x.keep();
        x.cut(0, 60, 150);
        x.clone(2, 1);
        x.write(2, 4095, 3);
        x.drop(1);
        due.is("check() of the sound object", x.check(), 0);
        return x;
    }

    private static void everyCount(int m) throws ReflectiveOperationException {
        SharedTrees x = sound(m);
        int[] ways = row(blocks(x), "ways");
        for (int block = 1; block < ways.length; block++) {
            spoiled(x, ways, block, ways[block] + 1, "a way too many to " + block);
            spoiled(x, ways, block, ways[block] - 1, "a way too few to " + block);
        }
        sees(x, false, "the counts as they were");
    }

    private static void everyLevel(int m) throws ReflectiveOperationException {
        SharedTrees x = sound(m);
        Object blocks = blocks(x);
        int[] ways = row(blocks, "ways");
        int[] levels = row(blocks, "levels");
        for (int block = 1; block < ways.length; block++) {
            if (ways[block] > 0) {
                spoiled(x, levels, block, levels[block] + 1, "level up at " + block);
                spoiled(x, levels, block, levels[block] - 1, "level down at " + block);
                spoiled(x, levels, block, Integer.MAX_VALUE, "no level at " + block);
            }
        }
    }

    private static void everySize(int m) throws ReflectiveOperationException {
        SharedTrees x = sound(m);
        Object blocks = blocks(x);
        int[] ways = row(blocks, "ways");
        int[] sizes = row(blocks, "sizes");
        for (int block = 1; block < ways.length; block++) {
            if (ways[block] > 0) {
                spoiled(x, sizes, block, sizes[block] - 1, "an entry less at " + block);
                spoiled(x, sizes, block, m + 1, "too many entries at " + block);
                spoiled(x, sizes, block, Integer.MAX_VALUE, "far too many entries at " + block);
                spoiled(x, sizes, block, 0, "no entry at " + block);
                spoiled(x, sizes, block, -1, "less than no entry at " + block);
            }
        }
    }

    private static void everyKeyAndGoal(int m) throws ReflectiveOperationException {
        SharedTrees x = sound(m);
        Object blocks = blocks(x);
        int[] ways = row(blocks, "ways");
        int[] levels = row(blocks, "levels");
        int[] sizes = row(blocks, "sizes");
        int[] keys = row(blocks, "entryKeys");
        int[] goals = row(blocks, "entryGoals");
        int width = keys.length / ways.length;
        for (int block = 1; block < ways.length; block++) {
            for (int slot = 0; ways[block] > 0 && slot < sizes[block]; slot++) {
                int at = block * width + slot;
                String place = " at " + block + ", " + slot;
                spoiled(x, keys, at, -1, "no key" + place);
                spoiled(x, keys, at, 4096, "no key" + place);
                if (slot > 0) {
                    spoiled(x, keys, at, keys[at - 1], "a key twice" + place);
                }
                if (levels[block] > 0) {
                    spoiled(x, keys, at, keys[at] + 1, "another key than the least below" + place);
                    spoiled(x, goals, at, 0, "a way to nothing" + place);
                    spoiled(x, goals, at, ways.length, "a way outside" + place);
                    spoiled(x, goals, at, -1, "a way outside" + place);
                    spoiled(x, goals, at, block, "a way to itself" + place);
                } else {
                    spoiled(x, goals, at, -1, "no stamp" + place);
                    spoiled(x, goals, at, 1_000_000_001, "no stamp" + place);
                }
            }
        }
    }

    private static void everyMap(int m) throws ReflectiveOperationException {
        SharedTrees x = sound(m);
        for (String name : new String[] {"now", "kept"}) {
            Object maps = field(x, name).get(x);
            int[] roots = row(maps, "roots");
            int[] counts = row(maps, "counts");
            for (int map = 0; map < 8; map++) {
                spoiled(x, counts, map, counts[map] + 1, name + ": a key too many in " + map);
                spoiled(x, roots, map, -1, name + ": no root of " + map);
                spoiled(x, roots, map, Integer.MAX_VALUE, name + ": no root of " + map);
                if (roots[map] != 0) {
                    spoiled(x, roots, map, 0, name + ": no tree for " + map);
                }
            }
            Field total = field(maps, "total");
            int was = total.getInt(maps);
            total.setInt(maps, was + 1);
            sees(x, true, name + ": a wrong total");
            total.setInt(maps, was);
            sees(x, false, name + ": the total as it was");
        }
    }

    private static void freeBlocks(int m) throws ReflectiveOperationException {
        SharedTrees x = sound(m);
        Object blocks = blocks(x);
        int[] free = row(blocks, "free");
        int used = row(field(x, "now").get(x), "roots")[0];
        Field count = field(blocks, "freeCount");
        int was = count.getInt(blocks);
        spoiled(x, free, 0, free[1], "a free block twice");
        spoiled(x, free, 0, used, "a free block that is used");
        spoiled(x, free, 0, 0, "a free block that is none");
        spoiled(x, free, 0, free.length + 1, "a free block that is none");
        for (int wrong : new int[] {was - 1, was + 1, -1, free.length + 1, Integer.MAX_VALUE}) {
            count.setInt(blocks, wrong);
            sees(x, true, wrong + " free blocks");
        }
        count.setInt(blocks, was);
        sees(x, false, "the free blocks as they were");
    }

    /* What the other numbers do not give away: they are changed along with the wrong one. */
    private static void faultsWhereTheRestAgrees() throws ReflectiveOperationException {
        SmallTree tree = new SmallTree();
        sees(tree.x, false, "a root and two leaves");

        tree.sizes[tree.left] = 1;
        tree.haveKeys(4);
        sees(tree.x, true, "a leaf with an entry too few");

        tree = new SmallTree();
        tree.sizes[tree.right] = 5;
        tree.keys[tree.right * 5 + 3] = 5;
        tree.keys[tree.right * 5 + 4] = 6;
        tree.haveKeys(7);
        sees(tree.x, true, "a leaf with an entry too many");

        tree = new SmallTree();
        tree.keys[tree.left * 5 + 1] = 3;
        sees(tree.x, true, "a key that lies where it is not led to");

        tree = new SmallTree();
        tree.sizes[tree.root] = 1;
        tree.ways[tree.right] = 0;
        tree.alsoFree(tree.right);
        tree.haveKeys(2);
        sees(tree.x, true, "a root with one way down");

        tree = new SmallTree();
        tree.alsoFree(tree.free[0]);
        sees(tree.x, true, "a block that is free twice");

        tree = new SmallTree();
        tree.counts[7] = 1;
        tree.total(6);
        sees(tree.x, true, "a key without a tree");
    }

    /** Map 0 of an object of the smallest nodes: keys 0 and 1 in one leaf, 2, 3 and 4 in another. */
    private static final class SmallTree {
        final SharedTrees x = new SharedTrees(4);
        final Object blocks;
        final int[] ways, sizes, keys, free, counts;
        final int root, left, right;

        SmallTree() throws ReflectiveOperationException {
            x.spread(0, 0, 1, 5, 0);
            blocks = blocks(x);
            ways = row(blocks, "ways");
            sizes = row(blocks, "sizes");
            keys = row(blocks, "entryKeys");
            free = row(blocks, "free");
            counts = row(field(x, "now").get(x), "counts");
            root = row(field(x, "now").get(x), "roots")[0];
            left = row(blocks, "entryGoals")[root * 5];
            right = row(blocks, "entryGoals")[root * 5 + 1];
            due.is("keys on the left", sizes[left], 2);
            due.is("keys on the right", sizes[right], 3);
        }

        void haveKeys(int many) throws ReflectiveOperationException {
            counts[0] = many;
            total(many);
        }

        void total(int many) throws ReflectiveOperationException {
            Object now = field(x, "now").get(x);
            field(now, "total").setInt(now, many);
        }

        void alsoFree(int block) throws ReflectiveOperationException {
            Field count = field(blocks, "freeCount");
            free[count.getInt(blocks)] = block;
            count.setInt(blocks, count.getInt(blocks) + 1);
        }
    }

    private static void spoiled(SharedTrees x, int[] row, int at, int wrong, String what) {
        int was = row[at];
        row[at] = wrong;
        sees(x, true, what);
        row[at] = was;
    }

    private static void sees(SharedTrees x, boolean fault, String what) {
        due.holds("check() sees a fault is " + fault + ": " + what, (x.check() != 0) == fault);
    }

    private static Object blocks(SharedTrees x) throws ReflectiveOperationException {
        return field(x, "blocks").get(x);
    }

    private static int[] row(Object owner, String name) throws ReflectiveOperationException {
        return (int[]) field(owner, name).get(owner);
    }

    private static Field field(Object owner, String name) throws ReflectiveOperationException {
        Field field = owner.getClass().getDeclaredField(name);
        field.setAccessible(true);
        return field;
    }
}
