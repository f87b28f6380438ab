import java.util.List;
import java.util.Objects;
import java.util.TreeMap;
import java.util.TreeSet;
import java.util.function.Supplier;
import java.util.function.ToIntFunction;

/**
 * Reads all that the maps have after a run of calls. One object cannot be asked often enough for
 * 600 keys, so the run is made again on a new object whenever the last one has no call left.
 */
final class Look {
    private final Supplier<Counted> run;
    private Counted x;

    Look(Supplier<Counted> run) {
        this.run = run;
        this.x = run.get();
    }

    private int ask(ToIntFunction<Face> question) {
        if (x.callsLeft() == 0) {
            x = run.get();
        }
        return question.applyAsInt(x);
    }

    /** How the maps are not as they are due; an empty text if they are. */
    String difference(List<TreeMap<Integer, Integer>> due) {
        int total = 0;
        for (int map = 0; map < due.size(); map++) {
            String difference = differenceOf(map, due.get(map));
            if (!difference.isEmpty()) {
                return difference;
            }
            total += due.get(map).size();
        }
        int all = ask(o -> o.keys(-1));
        return all == total ? "" : "keys(-1) is " + all + ", due is " + total;
    }

    private String differenceOf(int map, TreeMap<Integer, Integer> due) {
        TreeMap<Integer, Integer> found = mapOf(map);
        TreeSet<Integer> keys = new TreeSet<>(found.keySet());
        keys.addAll(due.keySet());
        for (int key : keys) {
            if (!Objects.equals(found.get(key), due.get(key))) {
                return "map " + map + ", key " + key + " has " + found.get(key) + ", due is " + due.get(key);
            }
        }
        int many = ask(o -> o.keys(map));
        return many == due.size() ? "" : "keys(" + map + ") is " + many + ", due is " + due.size();
    }

    private TreeMap<Integer, Integer> mapOf(int map) {
        TreeMap<Integer, Integer> found = new TreeMap<>();
        int from = 0;
        while (from <= 4095) {
            int start = from;
            int key = ask(o -> o.next(map, start));
            if (key < start) {
                break;
            }
            found.put(key, ask(o -> o.read(map, key)));
            from = key + 1;
        }
        return found;
    }
}
