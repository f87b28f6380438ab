/** An object of the program that is asked no more than the document allows. */
final class Counted implements Face {
    static final int MOST_CALLS = 512;

    private final SharedTrees x;
    private int calls = 0;

    Counted(int m) {
        x = new SharedTrees(m);
    }

    int callsLeft() {
        return MOST_CALLS - calls;
    }

    private SharedTrees counted() {
        if (calls >= MOST_CALLS) {
            throw new IllegalStateException("the test calls more often than an object is used");
        }
        calls++;
        return x;
    }

    @Override public int write(int map, int key, int stamp) {
        return counted().write(map, key, stamp);
    }

    @Override public int spread(int map, int key, int step, int many, int stamp) {
        return counted().spread(map, key, step, many, stamp);
    }

    @Override public int read(int map, int key) {
        return counted().read(map, key);
    }

    @Override public int erase(int map, int key) {
        return counted().erase(map, key);
    }

    @Override public int cut(int map, int from, int to) {
        return counted().cut(map, from, to);
    }

    @Override public int next(int map, int key) {
        return counted().next(map, key);
    }

    @Override public int clone(int map, int from) {
        return counted().clone(map, from);
    }

    @Override public int drop(int map) {
        return counted().drop(map);
    }

    @Override public int keep() {
        return counted().keep();
    }

    @Override public int back() {
        return counted().back();
    }

    @Override public int keys(int map) {
        return counted().keys(map);
    }

    @Override public int check() {
        return counted().check();
    }
}
