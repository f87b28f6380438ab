/** check() sees what is not as it should be: each test spoils one number inside a sound object. */
public final class CheckTest {
    private static final int[] SIZES = {4, 5, 12, 31};
    private static final String[] NOW_AND_KEPT = {"now", "kept"};

    private static final Cases cases = new Cases();

    public static void main(String[] args) {
        entriesAsManyAsTheyMust();
        entriesInOrder();
        oneLevelDown();
        countOfWays();
        freeBlocks();
        stampsWhereTheyAreLedTo();
        countsOfMaps();
        whereItIsNotSo();
        cases.end();
    }

    /* Trees that are shared, changed and kept, of which some blocks are free again. */
    private static Inside sound(int m) {
        SharedTrees x = new SharedTrees(m);
        x.spread(0, 0, 3, 120, 1);
        x.clone(1, 0);
        x.spread(1, 100, 2, 40, 7);
        x.keep();
        x.cut(0, 60, 150);
        x.clone(2, 1);
        x.write(2, 4095, 3);
        x.drop(1);
        return new Inside(x);
    }

    private interface Spoiler {
        void spoil(Inside o, int block, String place);
    }

    /* Each block has an object of its own, which is not asked more often than the document allows. */
    private static void inEachNode(Spoiler spoiler) {
        for (int m : SIZES) {
            int[] ways = sound(m).ways;
            for (int block = 1; block < ways.length; block++) {
                if (ways[block] > 0) {
                    spoiler.spoil(sound(m), block, " in block " + block + ", m " + m);
                }
            }
        }
    }

    private static void spoiled(Inside o, int[] row, int at, int wrong, String what) {
        int was = row[at];
        row[at] = wrong;
        int spoiled = o.x.check();
        row[at] = was;
        cases.holds(what, () -> spoiled != 0 && o.x.check() == 0);
    }

    private static void sees(Inside o, String what) {
        cases.holds(what, () -> o.x.check() != 0);
    }

    private static void entriesAsManyAsTheyMust() {
        cases.sentence("Promise 13",
            "nodes of all trees, and of those that were kept, have as many entries as they must");
        inEachNode((o, block, place) -> {
            spoiled(o, o.sizes, block, o.sizes[block] - 1, "an entry less" + place);
            spoiled(o, o.sizes, block, o.width(), "more entries than m" + place);
            spoiled(o, o.sizes, block, Integer.MAX_VALUE, "far more entries" + place);
            spoiled(o, o.sizes, block, 0, "no entry" + place);
            spoiled(o, o.sizes, block, -1, "less than no entry" + place);
        });

        for (int m = 4; m <= 31; m++) {
            TwoLeaves tree = new TwoLeaves(m);
            tree.haveEntries(tree.left, (m + 1) / 2 - 1);
            sees(tree.o, "a leaf with one less than half of m, where the counts agree, m " + m);

            tree = new TwoLeaves(m);
            tree.haveEntries(tree.right, m);
            cases.holds("a leaf with m entries, m " + m, tree::isSound);
            tree.haveEntries(tree.right, m + 1);
            sees(tree.o, "a leaf with one more than m, where the counts agree, m " + m);

            tree = new TwoLeaves(m);
            tree.o.sizes[tree.root] = 1;
            tree.o.ways[tree.right] = 0;
            tree.alsoFree(tree.right);
            tree.haveKeys(tree.o.sizes[tree.left]);
            sees(tree.o, "a root with one way down, where the counts agree, m " + m);
        }
    }

    private static void entriesInOrder() {
        cases.sentence("Promise 13", "in order");
        inEachNode((o, block, place) -> {
            for (int slot = 0; slot < o.sizes[block]; slot++) {
                int at = block * o.width() + slot;
                String here = place + ", entry " + slot;
                spoiled(o, o.keys, at, -1, "a key of -1" + here);
                spoiled(o, o.keys, at, 4096, "a key of 4096" + here);
                if (slot > 0) {
                    spoiled(o, o.keys, at, o.keys[at - 1], "a key twice" + here);
                }
            }
        });

        TwoLeaves tree = new TwoLeaves(4);
        tree.o.keys[tree.at(tree.left, 1)] = tree.o.keys[tree.at(tree.right, 0)];
        sees(tree.o, "a key that two leaves have");

        tree = new TwoLeaves(4);
        tree.o.keys[tree.at(tree.left, 1)] = tree.o.keys[tree.at(tree.right, 0)] + 1;
        sees(tree.o, "a key that is more than one of the next leaf");

        Inside o = new Inside(new SharedTrees(4));
        o.x.spread(0, 0, 1, 30, 0);
        int width = o.width();
        int root = o.roots("now")[0];
        cases.holds("a tree of three levels or more", () -> o.levels[root] >= 2 && o.x.check() == 0);
        int last = o.goals[root * width];
        for (int level = o.levels[last]; level > 0; level--) {
            last = o.goals[last * width + o.sizes[last] - 1];
        }
        int greatest = last * width + o.sizes[last] - 1;
        spoiled(o, o.keys, greatest, o.keys[root * width + 1], "a key that leaves of two parents have");
    }

    private static void oneLevelDown() {
        cases.sentence("Promise 13", "and lead one level down");
        inEachNode((o, block, place) -> {
            spoiled(o, o.levels, block, o.levels[block] + 1, "a level up" + place);
            spoiled(o, o.levels, block, o.levels[block] - 1, "a level down" + place);
            spoiled(o, o.levels, block, Integer.MAX_VALUE, "no level at all" + place);
            for (int slot = 0; o.levels[block] > 0 && slot < o.sizes[block]; slot++) {
                int at = block * o.width() + slot;
                String here = place + ", entry " + slot;
                spoiled(o, o.goals, at, 0, "a way to nothing" + here);
                spoiled(o, o.goals, at, -1, "a way to what is no block" + here);
                spoiled(o, o.goals, at, o.ways.length, "a way past the last block" + here);
                spoiled(o, o.goals, at, block, "a way to itself" + here);
            }
        });
        for (String maps : NOW_AND_KEPT) {
            for (int map = 0; map < 8; map++) {
                Inside o = sound(4);
                int[] roots = o.roots(maps);
                spoiled(o, roots, map, -1, maps + ", map " + map + ": a root of -1");
                spoiled(o, roots, map, o.ways.length, maps + ", map " + map + ": a root past the last block");
                if (roots[map] != 0) {
                    spoiled(o, roots, map, 0, maps + ", map " + map + ": no root");
                }
            }
        }
    }

    private static void countOfWays() {
        cases.sentence("Promise 13",
            "the count of each block is the number of ways to it, from trees and nodes");
        inEachNode((o, block, place) -> {
            spoiled(o, o.ways, block, o.ways[block] + 1, "a way too many" + place);
            spoiled(o, o.ways, block, o.ways[block] - 1, "a way too few" + place);
            spoiled(o, o.ways, block, 0, "no way" + place);
        });
    }

    private static void freeBlocks() {
        cases.sentence("Promise 13",
            "a block is free just when no way leads to it, neither now nor as it was kept");
        for (int m : SIZES) {
            for (int i = 0; i < sound(m).freeCount(); i += 100) {
                Inside o = sound(m);
                int block = o.free[i];
                String place = ", free block " + block + ", m " + m;
                spoiled(o, o.ways, block, 1, "a way" + place);
                spoiled(o, o.ways, block, -1, "less than no way" + place);
                spoiled(o, o.free, i, o.free[i == 0 ? 1 : 0], "another one twice" + place);
                spoiled(o, o.free, i, o.roots("now")[0], "one that is led to now" + place);
                spoiled(o, o.free, i, o.roots("kept")[0], "one that was kept" + place);
                spoiled(o, o.free, i, 0, "none" + place);
                spoiled(o, o.free, i, o.ways.length, "one past the last" + place);
            }
            Inside o = sound(m);
            int count = o.freeCount();
            for (int wrong : new int[] {count - 1, count + 1, -1, o.free.length + 1, Integer.MAX_VALUE}) {
                o.setFreeCount(wrong);
                sees(o, wrong + " free blocks, m " + m);
            }
        }

        TwoLeaves tree = new TwoLeaves(4);
        tree.alsoFree(tree.o.free[0]);
        sees(tree.o, "a block that is free twice, where no other is wrong");
    }

    private static void stampsWhereTheyAreLedTo() {
        cases.sentence("Promise 13", "stamps lie where they are led to");
        inEachNode((o, block, place) -> {
            for (int slot = 0; slot < o.sizes[block]; slot++) {
                int at = block * o.width() + slot;
                String here = place + ", entry " + slot;
                if (o.levels[block] > 0) {
                    spoiled(o, o.keys, at, o.keys[at] + 1, "a key that is not the least below" + here);
                } else {
                    spoiled(o, o.goals, at, -1, "a stamp of -1" + here);
                    spoiled(o, o.goals, at, 1_000_000_001, "a stamp of 1,000,000,001" + here);
                }
            }
        });
    }

    private static void countsOfMaps() {
        cases.sentence("Promise 13", "Looks through all trees and counts");
        for (String maps : NOW_AND_KEPT) {
            for (int map = 0; map < 8; map++) {
                Inside o = sound(4);
                int[] counts = o.counts(maps);
                spoiled(o, counts, map, counts[map] + 1, maps + ", map " + map + ": a key too many");
                spoiled(o, counts, map, counts[map] - 1, maps + ", map " + map + ": a key too few");
            }
            Inside o = sound(4);
            int total = o.total(maps);
            o.setTotal(maps, total + 1);
            sees(o, maps + ": a key too many of all maps");
            o.setTotal(maps, total - 1);
            sees(o, maps + ": a key too few of all maps");
        }

        TwoLeaves tree = new TwoLeaves(4);
        tree.o.counts("now")[7] = 1;
        tree.o.setTotal("now", 6);
        sees(tree.o, "a key without a tree, where the sum agrees");
    }

    /* The numbers are those that README.md tells. */
    private static void whereItIsNotSo() {
        cases.sentence("Promise 13", "Anything else would be where it is not so.");
        inEachNode((o, block, place) -> {
            where(o, o.ways, block, o.ways[block] + 1, block, "the block with a wrong count" + place);
            where(o, o.sizes, block, 0, block, "the block without entries" + place);
            where(o, o.keys, block * o.width(), -1, block, "the block with a wrong key" + place);
        });
        for (int map = 0; map < 8; map++) {
            Inside o = sound(4);
            int[] now = o.counts("now");
            int[] kept = o.counts("kept");
            where(o, now, map, now[map] + 1, 1201 + map, "map " + map);
            where(o, kept, map, kept[map] + 1, 1209 + map, "map " + map + " as it was kept");
        }
        Inside o = sound(4);
        where(o, o.free, 0, 0, 1218, "the list of free blocks");
        where(o, o.levels, o.roots("now")[0], Integer.MAX_VALUE, 1219, "a tree that is too deep");
        o.setTotal("now", o.total("now") + 1);
        cases.holds("the count of all keys", () -> o.x.check() == 1217);
    }

    private static void where(Inside o, int[] row, int at, int wrong, int place, String what) {
        int was = row[at];
        row[at] = wrong;
        int found = o.x.check();
        row[at] = was;
        cases.holds(what + ": " + found + ", due is " + place, () -> found == place);
    }

    /** Map 0 of an object: m + 1 keys in two leaves below a root. */
    private static final class TwoLeaves {
        final Inside o;
        final int root, left, right;

        TwoLeaves(int m) {
            SharedTrees x = new SharedTrees(m);
            x.spread(0, 0, 1, m + 1, 0);
            o = new Inside(x);
            root = o.roots("now")[0];
            left = o.goals[at(root, 0)];
            right = o.goals[at(root, 1)];
            cases.holds("two leaves below a root, m " + m, () -> isSound() && o.usedBlocks() == 3);
        }

        boolean isSound() {
            return o.x.check() == 0;
        }

        int at(int block, int slot) {
            return block * o.width() + slot;
        }

        /* Entries that were not there get keys behind the others. */
        void haveEntries(int leaf, int many) {
            for (int slot = o.sizes[leaf]; slot < many; slot++) {
                o.keys[at(leaf, slot)] = o.keys[at(leaf, slot - 1)] + 1;
                o.goals[at(leaf, slot)] = 0;
            }
            o.sizes[leaf] = many;
            haveKeys(o.sizes[left] + o.sizes[right]);
        }

        void haveKeys(int many) {
            o.counts("now")[0] = many;
            o.setTotal("now", many);
        }

        void alsoFree(int block) {
            int count = o.freeCount();
            o.free[count] = block;
            o.setFreeCount(count + 1);
        }
    }
}
