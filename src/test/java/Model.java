import java.util.ArrayList;
import java.util.List;
import java.util.TreeMap;

/** The document in its plainest form: maps of the library, copied whole. */
final class Model implements Face {
    private List<TreeMap<Integer, Integer>> now = new ArrayList<>();
    private List<TreeMap<Integer, Integer>> kept;

    Model() {
        for (int map = 0; map < 8; map++) {
            now.add(new TreeMap<>());
        }
        kept = copyOf(now);
    }

    List<TreeMap<Integer, Integer>> maps() {
        return copyOf(now);
    }

    List<TreeMap<Integer, Integer>> keptMaps() {
        return copyOf(kept);
    }

    private static List<TreeMap<Integer, Integer>> copyOf(List<TreeMap<Integer, Integer>> maps) {
        List<TreeMap<Integer, Integer>> copy = new ArrayList<>();
        for (TreeMap<Integer, Integer> map : maps) {
            copy.add(new TreeMap<>(map));
        }
        return copy;
    }

    private static boolean in(int number, int from, int to) {
        return from <= number && number <= to;
    }

    private static boolean wrongPlace(int map, int key) {
        return !in(map, 0, 7) || !in(key, 0, 4095);
    }

    private static int orNone(Integer number) {
        return number == null ? NONE : number;
    }

    @Override public int write(int map, int key, int stamp) {
        if (wrongPlace(map, key) || !in(stamp, 0, 1_000_000_000)) {
            return BAD;
        }
        if (!now.get(map).containsKey(key) && keys(-1) == 600) {
            return FULL;
        }
        now.get(map).put(key, stamp);
        return keys(map);
    }

    @Override public int spread(int map, int key, int step, int many, int stamp) {
        if (wrongPlace(map, key) || !in(stamp, 0, 1_000_000_000)
            || !in(step, 1, 4095) || !in(many, 0, 600)) {
            return BAD;
        }
        for (int i = 0; i < many; i++) {
            if (write(map, key + i * step, stamp + i) < 0) {
                return i;
            }
        }
        return many;
    }

    @Override public int read(int map, int key) {
        return wrongPlace(map, key) ? BAD : orNone(now.get(map).get(key));
    }

    @Override public int erase(int map, int key) {
        return wrongPlace(map, key) ? BAD : orNone(now.get(map).remove(key));
    }

    @Override public int cut(int map, int from, int to) {
        if (wrongPlace(map, from) || wrongPlace(map, to) || to < from) {
            return BAD;
        }
        int had = keys(map);
        now.get(map).subMap(from, true, to, true).clear();
        return had - keys(map);
    }

    @Override public int next(int map, int key) {
        return wrongPlace(map, key) ? BAD : orNone(now.get(map).ceilingKey(key));
    }

    @Override public int clone(int map, int from) {
        if (!in(map, 0, 7) || !in(from, 0, 7) || map == from) {
            return BAD;
        }
        if (keys(-1) - keys(map) + keys(from) > 600) {
            return FULL;
        }
        now.set(map, new TreeMap<>(now.get(from)));
        return keys(map);
    }

    @Override public int drop(int map) {
        return cut(map, 0, 4095);
    }

    @Override public int keep() {
        kept = copyOf(now);
        return keys(-1);
    }

    @Override public int back() {
        now = copyOf(kept);
        return keys(-1);
    }

    @Override public int keys(int map) {
        if (!in(map, -1, 7)) {
            return BAD;
        }
        int many = 0;
        for (int i = 0; i < 8; i++) {
            many += map == -1 || map == i ? now.get(i).size() : 0;
        }
        return many;
    }

    @Override public int check() {
        return 0;
    }
}
