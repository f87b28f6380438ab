import java.util.function.Consumer;
import java.util.function.ToIntFunction;

/** The wrong numbers, and what can stand before a call, for the boundary tests. */
final class Scenes {
    static final int LEAST = Integer.MIN_VALUE, GREATEST = Integer.MAX_VALUE;
    static final int LAST_STAMP = 1_000_000_000;
    static final int[] NO_MAPS = {LEAST, -1, 8, GREATEST};
    static final int[] NO_KEYS = {LEAST, -1, 4096, GREATEST};
    static final int[] NO_STAMPS = {LEAST, -1, LAST_STAMP + 1, GREATEST};

    private final Cases cases;

    Scenes(Cases cases) {
        this.cases = cases;
    }

    static void nothing(Face x) {
    }

    /** Trees of several levels, shared in part; what was kept, 150 keys, is not what is now, 151. */
    static void some(Face x) {
        x.spread(0, 100, 10, 60, 1000);
        x.clone(1, 0);
        x.spread(7, 0, 1, 30, 5);
        x.keep();
        x.write(1, 105, 7);
        x.erase(0, 200);
        x.write(6, 4095, LAST_STAMP);
    }

    /** 600 keys: 150 in maps 0 and 2, 151 in map 1, 149 in map 7; kept are the first 450. */
    static void full(Face x) {
        x.spread(0, 0, 1, 150, 0);
        x.clone(1, 0);
        x.clone(2, 1);
        x.keep();
        x.write(1, 4095, 3);
        x.spread(7, 0, 7, 149, 50);
    }

    static void oneShortOfFull(Face x) {
        full(x);
        x.erase(7, 7);
    }

    static void fullInOneMap(Face x) {
        x.spread(4, 0, 6, 600, 0);
    }

    static void fullInEightMaps(Face x) {
        for (int map = 0; map < 8; map++) {
            x.spread(map, map, 8, 75, map);
        }
    }

    static void oneKey(Face x) {
        x.write(3, 2000, 0);
    }

    static void firstAndLastKey(Face x) {
        x.write(3, 0, 11);
        x.write(3, 4095, 12);
    }

    static Consumer<Face> both(Consumer<Face> first, ToIntFunction<Face> then) {
        return x -> {
            first.accept(x);
            then.applyAsInt(x);
        };
    }

    void onNew(String name, ToIntFunction<Face> call, int due) {
        cases.test(name + ", of a new object", Scenes::nothing, call, due);
    }

    void onSome(String name, ToIntFunction<Face> call, int due) {
        cases.test(name, Scenes::some, call, due);
    }

    void onFull(String name, ToIntFunction<Face> call, int due) {
        cases.test(name + ", with 600 keys", Scenes::full, call, due);
    }

    /** Refused whatever the maps have. */
    void bad(String name, ToIntFunction<Face> call) {
        onNew(name, call, Face.BAD);
        onSome(name, call, Face.BAD);
        onFull(name, call, Face.BAD);
        cases.test(name + ", with 600 keys of eight maps", Scenes::fullInEightMaps, call, Face.BAD);
    }
}
