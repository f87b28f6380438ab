/** Eight maps from keys to stamps, in trees of blocks that share what the maps have in common. */
public final class SharedTrees {
    public static final int BAD = -1, NONE = -2, FULL = -3;

    private static final int MAPS = 8;
    private static final int ALL_MAPS = -1;
    private static final int LAST_KEY = 4095;
    private static final int LAST_STAMP = 1_000_000_000;
    private static final int MOST_KEYS = 600;
    private static final int MOST_STEP = 4095;
    private static final int SMALLEST_NODE = 4;
    private static final int LARGEST_NODE = 31;

    private static final int NO_BLOCK = 0;
    /*
     * Every node but a root has two entries or more, so a tree of n keys has at most n blocks:
     * 600 for the maps as they are and 600 for the maps as they were kept are enough, also in
     * the midst of a call, as a block is only copied if another way to it stays.
     */
    private static final int BLOCKS = 2 * MOST_KEYS;
    /* For the same reason 600 keys lie under at most nine levels, 0 to 8; the rest is spare. */
    private static final int TOP_LEVEL = 16;

    /* What check() answers beyond the number of a block. */
    private static final int WRONG_MAP = BLOCKS + 1;
    private static final int WRONG_KEPT_MAP = WRONG_MAP + MAPS;
    private static final int WRONG_TOTAL = WRONG_KEPT_MAP + MAPS;
    private static final int WRONG_FREE = WRONG_TOTAL + 1;
    private static final int WRONG_WAY = WRONG_FREE + 1;

    private final Blocks blocks;
    private final Trees trees;
    private final Inspection inspection;
    private final Maps now;
    private final Maps kept;

    public SharedTrees(int m) {
        int most = Math.max(SMALLEST_NODE, Math.min(LARGEST_NODE, m));
        blocks = new Blocks(most);
        trees = new Trees(blocks, most);
        inspection = new Inspection(blocks, most);
        now = new Maps();
        kept = new Maps();
    }

    public int write(int map, int key, int stamp) {
        if (!isMap(map) || !isKey(key) || !isStamp(stamp)) {
            return BAD;
        }
        boolean added = trees.stampOf(now.roots[map], key) == NONE;
        if (added && now.total >= MOST_KEYS) {
            return FULL;
        }
        now.roots[map] = trees.with(now.roots[map], key, stamp);
        if (added) {
            changeCount(now, map, 1);
        }
        return now.counts[map];
    }

    public int spread(int map, int key, int step, int many, int stamp) {
        if (!isMap(map) || !isKey(key) || !isStamp(stamp)) {
            return BAD;
        }
        if (step < 1 || step > MOST_STEP || many < 0 || many > MOST_KEYS) {
            return BAD;
        }
        int written = 0;
        while (written < many && write(map, key + written * step, stamp + written) >= 0) {
            written++;
        }
        return written;
    }

    public int read(int map, int key) {
        if (!isMap(map) || !isKey(key)) {
            return BAD;
        }
        return trees.stampOf(now.roots[map], key);
    }

    public int erase(int map, int key) {
        if (!isMap(map) || !isKey(key)) {
            return BAD;
        }
        int stamp = trees.stampOf(now.roots[map], key);
        if (stamp != NONE) {
            now.roots[map] = trees.without(now.roots[map], key);
            changeCount(now, map, -1);
        }
        return stamp;
    }

    public int cut(int map, int from, int to) {
        if (!isMap(map) || !isKey(from) || !isKey(to) || to < from) {
            return BAD;
        }
        int removed = 0;
        int key = trees.keyFrom(now.roots[map], from);
        while (removed < MOST_KEYS && key != NONE && key <= to) {
            now.roots[map] = trees.without(now.roots[map], key);
            removed++;
            key = trees.keyFrom(now.roots[map], key);
        }
        changeCount(now, map, -removed);
        return removed;
    }

    public int next(int map, int key) {
        if (!isMap(map) || !isKey(key)) {
            return BAD;
        }
        return trees.keyFrom(now.roots[map], key);
    }

    public int clone(int map, int from) {
        if (!isMap(map) || !isMap(from) || map == from) {
            return BAD;
        }
        if (now.total - now.counts[map] + now.counts[from] > MOST_KEYS) {
            return FULL;
        }
        lead(now, map, now.roots[from], now.counts[from]);
        return now.counts[map];
    }

    public int drop(int map) {
        if (!isMap(map)) {
            return BAD;
        }
        int had = now.counts[map];
        lead(now, map, NO_BLOCK, 0);
        return had;
    }

    public int keep() {
        leadAll(kept, now);
        return now.total;
    }

    public int back() {
        leadAll(now, kept);
        return now.total;
    }

    public int keys(int map) {
        if (map == ALL_MAPS) {
            return now.total;
        }
        return isMap(map) ? now.counts[map] : BAD;
    }

    public int check() {
        return inspection.firstFault(now, kept);
    }

    private static boolean isMap(int map) {
        return map >= 0 && map < MAPS;
    }

    private static boolean isKey(int key) {
        return key >= 0 && key <= LAST_KEY;
    }

    private static boolean isStamp(int stamp) {
        return stamp >= 0 && stamp <= LAST_STAMP;
    }

    /*
     * As many as both halves of a node with one entry too many have; and a node with one entry
     * less than this fits into one node together with a node that has just this many.
     */
    private static int leastEntries(int most) {
        return (most + 1) / 2;
    }

    private static void changeCount(Maps maps, int map, int more) {
        maps.counts[map] += more;
        maps.total += more;
    }

    private void leadAll(Maps to, Maps from) {
        for (int map = 0; map < MAPS; map++) {
            lead(to, map, from.roots[map], from.counts[map]);
        }
    }

    private void lead(Maps maps, int map, int root, int count) {
        blocks.share(root);
        trees.release(maps.roots[map]);
        maps.roots[map] = root;
        changeCount(maps, map, count - maps.counts[map]);
    }

    /** The root of each map's tree, and how many keys it has. */
    private static final class Maps {
        private final int[] roots = new int[MAPS];
        private final int[] counts = new int[MAPS];
        private int total;
    }

    /**
     * All memory. A block is a node of a tree: entries of a key and of what it leads to, which
     * is a stamp on level 0 and a block above. Block 0 is none: it reads as empty.
     */
    private static final class Blocks {
        private final int width;
        private final int[] ways = new int[BLOCKS + 1];
        private final int[] levels = new int[BLOCKS + 1];
        private final int[] sizes = new int[BLOCKS + 1];
        private final int[] entryKeys;
        private final int[] entryGoals;
        private final int[] free = new int[BLOCKS];
        private int freeCount = BLOCKS;

        /* One entry more than a node may have: it is put in first, and the node split then. */
        Blocks(int most) {
            width = most + 1;
            entryKeys = new int[(BLOCKS + 1) * width];
            entryGoals = new int[(BLOCKS + 1) * width];
            for (int i = 0; i < BLOCKS; i++) {
                free[i] = BLOCKS - i;
            }
        }

        boolean isBlock(int block) {
            return block > NO_BLOCK && block <= BLOCKS;
        }

        int ways(int block) {
            return isBlock(block) ? ways[block] : 0;
        }

        int level(int block) {
            return isBlock(block) ? levels[block] : 0;
        }

        int size(int block) {
            return isBlock(block) ? sizes[block] : 0;
        }

        int key(int block, int slot) {
            return isEntry(block, slot) ? entryKeys[block * width + slot] : NONE;
        }

        int goal(int block, int slot) {
            return isEntry(block, slot) ? entryGoals[block * width + slot] : NO_BLOCK;
        }

        void setKey(int block, int slot, int key) {
            if (isEntry(block, slot)) {
                entryKeys[block * width + slot] = key;
            }
        }

        void setGoal(int block, int slot, int goal) {
            if (isEntry(block, slot)) {
                entryGoals[block * width + slot] = goal;
            }
        }

        int freeCount() {
            return freeCount;
        }

        int freeBlock(int i) {
            return i >= 0 && i < freeCount && i < BLOCKS ? free[i] : NO_BLOCK;
        }

        /* Asks no other method, as it is itself the last of long rows of calls. Block 0 stays empty. */
        private boolean isEntry(int block, int slot) {
            return block >= 0 && block <= BLOCKS && slot >= 0 && slot < width && slot < sizes[block];
        }

        /** The last slot with a key that is not above this one; -1 if there is none. */
        int slotOf(int block, int key) {
            int slot = -1;
            int first = block * width;
            int end = Math.min(size(block), width);
            while (slot + 1 < end && entryKeys[first + slot + 1] <= key) {
                slot++;
            }
            return slot;
        }

        /** A new block with one way to it, the caller's. */
        int take(int level) {
            if (freeCount <= 0 || freeCount > BLOCKS) {
                return NO_BLOCK;
            }
            freeCount--;
            int block = free[freeCount];
            if (isBlock(block)) {
                ways[block] = 1;
                levels[block] = level;
                sizes[block] = 0;
            }
            return block;
        }

        /** Frees a block whose entries lead nowhere any more, or are led to from elsewhere. */
        void give(int block) {
            if (isBlock(block) && freeCount >= 0 && freeCount < BLOCKS) {
                ways[block] = 0;
                levels[block] = 0;
                sizes[block] = 0;
                free[freeCount] = block;
                freeCount++;
            }
        }

        void share(int block) {
            if (isBlock(block)) {
                ways[block]++;
            }
        }

        /** One way to the block goes: is it the last? */
        boolean lose(int block) {
            if (!isBlock(block) || ways[block] <= 0) {
                return false;
            }
            ways[block]--;
            return ways[block] == 0;
        }

        /** What the caller's way has to lead to, so that it can be written on. */
        int owned(int block) {
            if (ways(block) <= 1) {
                return block;
            }
            int copy = take(level(block));
            copyEntries(block, copy);
            if (level(block) > 0) {
                for (int slot = 0; slot < size(block); slot++) {
                    share(goal(block, slot));
                }
            }
            lose(block);
            return copy;
        }

        private void copyEntries(int from, int to) {
            if (isBlock(from) && isBlock(to)) {
                System.arraycopy(entryKeys, from * width, entryKeys, to * width, width);
                System.arraycopy(entryGoals, from * width, entryGoals, to * width, width);
                sizes[to] = sizes[from];
            }
        }

        void insert(int block, int slot, int key, int goal) {
            if (!isBlock(block) || slot < 0 || slot > sizes[block] || sizes[block] >= width) {
                return;
            }
            int size = sizes[block];
            int at = block * width + slot;
            System.arraycopy(entryKeys, at, entryKeys, at + 1, size - slot);
            System.arraycopy(entryGoals, at, entryGoals, at + 1, size - slot);
            entryKeys[at] = key;
            entryGoals[at] = goal;
            sizes[block] = size + 1;
        }

        void remove(int block, int slot) {
            int size = size(block);
            if (!isEntry(block, slot) || size > width) {
                return;
            }
            int at = block * width + slot;
            System.arraycopy(entryKeys, at + 1, entryKeys, at, size - slot - 1);
            System.arraycopy(entryGoals, at + 1, entryGoals, at, size - slot - 1);
            sizes[block] = size - 1;
        }

        /** The entries from a slot on go behind those of another block, which has room. */
        void moveTail(int from, int slot, int to) {
            for (int i = slot; i < size(from); i++) {
                insert(to, size(to), key(from, i), goal(from, i));
            }
            if (isBlock(from) && slot >= 0 && slot < sizes[from]) {
                sizes[from] = slot;
            }
        }
    }

    /**
     * Searches and changes. An entry above level 0 has the least key of what it leads to. A
     * change owns each block on its way down, so that what others lead to stays as it was.
     */
    private static final class Trees {
        private final Blocks blocks;
        private final int most;
        private final int least;

        Trees(Blocks blocks, int most) {
            this.blocks = blocks;
            this.most = most;
            this.least = leastEntries(most);
        }

        int stampOf(int root, int key) {
            int block = root;
            for (int level = blocks.level(root); level > 0; level--) {
                block = blocks.goal(block, slotToward(block, key));
            }
            int slot = blocks.slotOf(block, key);
            return blocks.key(block, slot) == key ? blocks.goal(block, slot) : NONE;
        }

        int keyFrom(int root, int key) {
            int block = root;
            int after = NONE;
            for (int level = blocks.level(root); level > 0; level--) {
                int slot = slotToward(block, key);
                after = keyOr(block, slot + 1, after);
                block = blocks.goal(block, slot);
            }
            int slot = blocks.slotOf(block, key);
            return blocks.key(block, slot) == key ? key : keyOr(block, slot + 1, after);
        }

        private int keyOr(int block, int slot, int other) {
            return slot < blocks.size(block) ? blocks.key(block, slot) : other;
        }

        private int slotToward(int block, int key) {
            return Math.max(0, blocks.slotOf(block, key));
        }

        /** The root of the tree once the key has the stamp. */
        int with(int root, int key, int stamp) {
            int top = root == NO_BLOCK ? blocks.take(0) : blocks.owned(root);
            putBelow(top, blocks.level(top), key, stamp);
            return blocks.size(top) > most ? grown(top) : top;
        }

        private void putBelow(int block, int level, int key, int stamp) {
            if (level > TOP_LEVEL) {
                return;
            }
            if (level <= 0) {
                putInLeaf(block, key, stamp);
                return;
            }
            int slot = slotToward(block, key);
            int child = ownedChild(block, slot);
            putBelow(child, level - 1, key, stamp);
            blocks.setKey(block, slot, blocks.key(child, 0));
            if (blocks.size(child) > most) {
                split(block, slot);
            }
        }

        private void putInLeaf(int leaf, int key, int stamp) {
            int slot = blocks.slotOf(leaf, key);
            if (blocks.key(leaf, slot) == key) {
                blocks.setGoal(leaf, slot, stamp);
            } else {
                blocks.insert(leaf, slot + 1, key, stamp);
            }
        }

        private int ownedChild(int block, int slot) {
            int child = blocks.owned(blocks.goal(block, slot));
            blocks.setGoal(block, slot, child);
            return child;
        }

        private void split(int block, int slot) {
            int left = blocks.goal(block, slot);
            int right = blocks.take(blocks.level(left));
            blocks.moveTail(left, least, right);
            blocks.insert(block, slot + 1, blocks.key(right, 0), right);
        }

        private int grown(int root) {
            int top = blocks.take(blocks.level(root) + 1);
            blocks.insert(top, 0, blocks.key(root, 0), root);
            split(top, 0);
            return top;
        }

        /** The root of the tree once the key, which is there, has gone. */
        int without(int root, int key) {
            int top = blocks.owned(root);
            removeBelow(top, blocks.level(top), key);
            return shrunk(top);
        }

        private void removeBelow(int block, int level, int key) {
            if (level > TOP_LEVEL) {
                return;
            }
            if (level <= 0) {
                blocks.remove(block, blocks.slotOf(block, key));
                return;
            }
            int slot = slotToward(block, key);
            int child = ownedChild(block, slot);
            removeBelow(child, level - 1, key);
            blocks.setKey(block, slot, blocks.key(child, 0));
            if (blocks.size(child) < least) {
                fill(block, Math.max(0, slot - 1));
            }
        }

        /** One of the children at this slot and the next has an entry too few. */
        private void fill(int block, int slot) {
            int left = ownedChild(block, slot);
            int right = ownedChild(block, slot + 1);
            if (blocks.size(left) + blocks.size(right) <= most) {
                blocks.moveTail(right, 0, left);
                blocks.give(right);
                blocks.remove(block, slot + 1);
                return;
            }
            if (blocks.size(left) < blocks.size(right)) {
                moveEntry(right, 0, left, blocks.size(left));
            } else {
                moveEntry(left, blocks.size(left) - 1, right, 0);
            }
            blocks.setKey(block, slot + 1, blocks.key(right, 0));
        }

        private void moveEntry(int from, int slot, int to, int at) {
            blocks.insert(to, at, blocks.key(from, slot), blocks.goal(from, slot));
            blocks.remove(from, slot);
        }

        private int shrunk(int root) {
            if (blocks.size(root) == 0) {
                blocks.give(root);
                return NO_BLOCK;
            }
            if (blocks.level(root) > 0 && blocks.size(root) == 1) {
                int only = blocks.goal(root, 0);
                blocks.give(root);
                return only;
            }
            return root;
        }

        void release(int root) {
            releaseBelow(root, blocks.level(root));
        }

        private void releaseBelow(int block, int level) {
            if (level < 0 || level > TOP_LEVEL || !blocks.lose(block)) {
                return;
            }
            if (level > 0) {
                for (int slot = 0; slot < blocks.size(block); slot++) {
                    releaseBelow(blocks.goal(block, slot), level - 1);
                }
            }
            blocks.give(block);
        }
    }

    /** Goes every way there is, and counts anew. Each block is looked into once. */
    private static final class Inspection {
        private final Blocks blocks;
        private final int most;
        private final int least;
        private final int[] found = new int[BLOCKS + 1];
        private final int[] keysBelow = new int[BLOCKS + 1];
        private final int[] lastKeys = new int[BLOCKS + 1];
        private final boolean[] listed = new boolean[BLOCKS + 1];

        Inspection(Blocks blocks, int most) {
            this.blocks = blocks;
            this.most = most;
            this.least = leastEntries(most);
        }

        int firstFault(Maps now, Maps kept) {
            for (int block = 0; block <= BLOCKS; block++) {
                found[block] = 0;
                listed[block] = false;
            }
            int fault = faultOfMaps(now, WRONG_MAP);
            if (fault == 0) {
                fault = faultOfMaps(kept, WRONG_KEPT_MAP);
            }
            if (fault == 0) {
                fault = faultOfFree();
            }
            return fault != 0 ? fault : faultOfWays();
        }

        private int faultOfMaps(Maps maps, int wrong) {
            int total = 0;
            for (int map = 0; map < MAPS; map++) {
                int fault = faultOfTree(maps.roots[map], maps.counts[map], wrong + map);
                if (fault != 0) {
                    return fault;
                }
                total += maps.counts[map];
            }
            return total == maps.total && total <= MOST_KEYS ? 0 : WRONG_TOTAL;
        }

        private int faultOfTree(int root, int count, int wrong) {
            if (root == NO_BLOCK) {
                return count == 0 ? 0 : wrong;
            }
            if (!blocks.isBlock(root)) {
                return wrong;
            }
            int level = blocks.level(root);
            if (blocks.size(root) < (level == 0 ? 1 : 2)) {
                return root;
            }
            int fault = faultBelow(root, level);
            if (fault != 0) {
                return fault;
            }
            return keysBelow[root] == count ? 0 : wrong;
        }

        private int faultBelow(int block, int level) {
            if (level < 0 || level > TOP_LEVEL || !blocks.isBlock(block)) {
                return WRONG_WAY;
            }
            found[block]++;
            if (found[block] > 1) {
                return 0;
            }
            if (!hasOrder(block)) {
                return block;
            }
            return level == 0 ? faultOfLeaf(block) : faultOfNode(block, level);
        }

        private boolean hasOrder(int block) {
            int size = blocks.size(block);
            if (size < 1 || size > most) {
                return false;
            }
            for (int slot = 1; slot < size; slot++) {
                if (blocks.key(block, slot - 1) >= blocks.key(block, slot)) {
                    return false;
                }
            }
            return isKey(blocks.key(block, 0)) && isKey(blocks.key(block, size - 1));
        }

        private int faultOfLeaf(int leaf) {
            int size = blocks.size(leaf);
            for (int slot = 0; slot < size; slot++) {
                if (!isStamp(blocks.goal(leaf, slot))) {
                    return leaf;
                }
            }
            keysBelow[leaf] = size;
            lastKeys[leaf] = blocks.key(leaf, size - 1);
            return 0;
        }

        private int faultOfNode(int block, int level) {
            int size = blocks.size(block);
            int total = 0;
            int last = NONE;
            for (int slot = 0; slot < size; slot++) {
                int child = blocks.goal(block, slot);
                if (!blocks.isBlock(child) || blocks.level(child) != level - 1) {
                    return block;
                }
                // Asked of each way, as a root with fewer entries can be a block of other trees too.
                if (blocks.size(child) < least) {
                    return child;
                }
                int fault = faultBelow(child, level - 1);
                if (fault != 0) {
                    return fault;
                }
                int key = blocks.key(block, slot);
                if (key != blocks.key(child, 0) || key <= last) {
                    return block;
                }
                last = lastKeys[child];
                total += keysBelow[child];
            }
            keysBelow[block] = total;
            lastKeys[block] = last;
            return 0;
        }

        private int faultOfFree() {
            int many = blocks.freeCount();
            if (many < 0 || many > BLOCKS) {
                return WRONG_FREE;
            }
            for (int i = 0; i < many; i++) {
                int block = blocks.freeBlock(i);
                if (!blocks.isBlock(block) || listed[block]) {
                    return WRONG_FREE;
                }
                listed[block] = true;
            }
            return 0;
        }

        private int faultOfWays() {
            for (int block = 1; block <= BLOCKS; block++) {
                boolean unused = found[block] == 0;
                if (blocks.ways(block) != found[block] || listed[block] != unused) {
                    return block;
                }
            }
            return 0;
        }
    }
}
