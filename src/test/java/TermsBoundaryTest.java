import java.util.function.Consumer;
import java.util.function.ToIntFunction;

/** The boundaries that "What it is", "Terms" and promise 1 name, sentence by sentence. */
public final class TermsBoundaryTest {
    private static final int NONE = Face.NONE, FULL = Face.FULL;
    private static final int[] FIRST_AND_LAST_MAP = {0, 7};
    private static final int[] FIRST_AND_LAST_KEY = {0, 4095};
    private static final int[] FIRST_AND_LAST_STAMP = {0, Scenes.LAST_STAMP};
    private static final int[] SIZES =
        {Scenes.LEAST, -1, 0, 1, 3, 4, 5, 30, 31, 32, 33, Scenes.GREATEST};

    private static final Cases cases = new Cases();
    private static final Scenes scenes = new Scenes(cases);

    public static void main(String[] args) {
        mostCalls();
        leavesTheOtherOne();
        leavesWhatWasKept();
        mapNumbers();
        keyNumbers();
        stampNumbers();
        atFirstNone();
        mostKeys();
        newObjectIsEmpty();
        newObjectIsKeptEmpty();
        entriesOfNodes();
        cases.end();
    }

    private static void mostCalls() {
        cases.sentence("What it is", "An object is used for at most 512 calls after it has been made");
        lastCall("write", x -> x.write(0, 3, 4));
        lastCall("a refused write", x -> x.write(8, 3, 4));
        lastCall("spread", x -> x.spread(2, 0, 6, 600, 4));
        lastCall("read", x -> x.read(1, 4095));
        lastCall("erase", x -> x.erase(1, 4095));
        lastCall("cut", x -> x.cut(1, 0, 4095));
        lastCall("next", x -> x.next(7, 1));
        lastCall("clone", x -> x.clone(7, 2));
        lastCall("drop", x -> x.drop(7));
        lastCall("keep", x -> x.keep());
        lastCall("back", x -> x.back());
        lastCall("keys", x -> x.keys(-1));
        lastCall("check", x -> x.check());
    }

    private static void lastCall(String name, ToIntFunction<Face> call) {
        for (int m : new int[] {4, 31}) {
            cases.holds(name + " as the 512th call, m " + m, () -> {
                Counted x = new Counted(m);
                allCallsButOne(x);
                Model model = new Model();
                allCallsButOne(model);
                return x.callsLeft() == 1 && call.applyAsInt(x) == call.applyAsInt(model);
            });
        }
    }

    private static void allCallsButOne(Face x) {
        Scenes.full(x);
        for (int call = 6; call < Counted.MOST_CALLS - 1; call++) {
            switch (call % 6) {
                case 0 -> x.write(0, call % 150, call);
                case 1 -> x.erase(1, call % 149);
                case 2 -> x.spread(7, 0, 7, 140, call);
                case 3 -> x.cut(2, call % 150, call % 150 + 1);
                case 4 -> x.back();
                default -> x.keep();
            }
        }
    }

    private static void leavesTheOtherOne() {
        cases.sentence("What it is",
            "one can become another one at once, is written on, and leaves the other one as it was");
        Consumer<Face> cloned = x -> {
            x.spread(0, 0, 3, 180, 40);
            x.clone(1, 0);
        };
        changes(1, "a clone", cloned);
        changes(0, "what was cloned", cloned);
        changes(2, "a clone of a clone", Scenes.both(cloned, x -> x.clone(2, 1)));
        Consumer<Face> oneKey = Scenes.both(Scenes::oneKey, x -> x.clone(4, 3));
        cases.test("the one key of a clone erased", oneKey, x -> x.erase(4, 2000), 0);
        cases.test("the one key of a clone cut", oneKey, x -> x.cut(4, 2000, 2000), 1);
        cases.test("the one key of a clone written over", oneKey, x -> x.write(4, 2000, 9), 1);
        cases.test("one key more in a clone of one", oneKey, x -> x.write(4, 2001, 9), 2);
        cases.test("a key in a clone of an empty map", x -> x.clone(4, 3), x -> x.write(4, 0, 9), 1);
    }

    /* A map of the 180 keys 0, 3, .. 537 with stamps from 40 on, changed in every way. */
    private static void changes(int map, String what, Consumer<Face> before) {
        cases.test("write over the first key of " + what, before, x -> x.write(map, 0, 7), 180);
        cases.test("write over a key of " + what, before, x -> x.write(map, 300, 7), 180);
        cases.test("write over the last key of " + what, before, x -> x.write(map, 537, 7), 180);
        cases.test("write a key between those of " + what, before, x -> x.write(map, 301, 7), 181);
        cases.test("write a key behind all of " + what, before, x -> x.write(map, 4095, 7), 181);
        cases.test("spread over all of " + what, before, x -> x.spread(map, 0, 3, 180, 900), 180);
        cases.test("erase the first key of " + what, before, x -> x.erase(map, 0), 40);
        cases.test("erase the last key of " + what, before, x -> x.erase(map, 537), 219);
        cases.test("cut half of " + what, before, x -> x.cut(map, 0, 269), 90);
        cases.test("cut all of " + what, before, x -> x.cut(map, 0, 4095), 180);
        cases.test("drop " + what, before, x -> x.drop(map), 180);
        cases.test("an empty map is what becomes of " + what, before, x -> x.clone(map, 6), 0);
    }

    private static void leavesWhatWasKept() {
        cases.sentence("Terms", "what is shared, or was kept, is never written over");
        changes(1, "what was shared and kept", x -> {
            x.spread(0, 0, 3, 180, 40);
            x.clone(1, 0);
            x.keep();
            x.drop(0);
        });
        Consumer<Face> kept = Scenes.both(Scenes::fullInOneMap, x -> x.keep());
        cases.test("cut all that was kept", kept, x -> x.cut(4, 0, 4095), 600);
        cases.test("spread over all that was kept", kept, x -> x.spread(4, 0, 6, 600, 5000), 600);
        cases.test("600 other keys than those that were kept", Scenes.both(kept, x -> x.drop(4)),
            x -> x.spread(0, 5, 6, 600, 5000), 600);
        cases.test("eight maps that were kept, all written over", x -> {
            Scenes.fullInEightMaps(x);
            x.keep();
            for (int map = 0; map < 7; map++) {
                x.spread(map, map, 8, 75, 7000);
            }
        }, x -> x.spread(7, 7, 8, 75, 7000), 75);
        cases.test("eight maps that are one, and one of them written over", x -> {
            x.spread(0, 0, 1, 75, 0);
            for (int map = 1; map < 8; map++) {
                x.clone(map, 0);
            }
            x.keep();
        }, x -> x.spread(3, 0, 1, 75, 8000), 75);
    }

    private static void mapNumbers() {
        cases.sentence("Terms", "MAPS have numbers 0 .. 7");
        for (int map : FIRST_AND_LAST_MAP) {
            Consumer<Face> before = x -> x.spread(map, 10, 1, 9, 20);
            scenes.onNew("write on map " + map, x -> x.write(map, 5, 6), 1);
            scenes.onNew("spread on map " + map, x -> x.spread(map, 5, 1, 10, 6), 10);
            cases.test("read of map " + map, before, x -> x.read(map, 10), 20);
            cases.test("erase on map " + map, before, x -> x.erase(map, 10), 20);
            cases.test("cut of map " + map, before, x -> x.cut(map, 0, 12), 3);
            cases.test("next of map " + map, before, x -> x.next(map, 0), 10);
            cases.test("clone from map " + map, before, x -> x.clone(7 - map, map), 9);
            cases.test("drop of map " + map, before, x -> x.drop(map), 9);
            cases.test("keys of map " + map, before, x -> x.keys(map), 9);
        }
    }

    private static void keyNumbers() {
        cases.sentence("Terms", "KEYS are 0 .. 4095");
        for (int key : FIRST_AND_LAST_KEY) {
            int stamp = key == 0 ? 11 : 12;
            Consumer<Face> before = Scenes::firstAndLastKey;
            scenes.onNew("write at key " + key, x -> x.write(3, key, 6), 1);
            scenes.onNew("spread from key " + key, x -> x.spread(3, key, 1, 1, 6), 1);
            cases.test("read of key " + key, before, x -> x.read(3, key), stamp);
            cases.test("erase of key " + key, before, x -> x.erase(3, key), stamp);
            cases.test("cut of key " + key, before, x -> x.cut(3, key, key), 1);
            cases.test("next from key " + key, before, x -> x.next(3, key), key);
        }
    }

    private static void stampNumbers() {
        cases.sentence("Terms", "STAMPS 0 .. 1,000,000,000");
        for (int stamp : FIRST_AND_LAST_STAMP) {
            Consumer<Face> before = x -> x.write(5, 50, stamp);
            scenes.onNew("write of stamp " + stamp, x -> x.write(5, 50, stamp), 1);
            scenes.onNew("spread of stamp " + stamp, x -> x.spread(5, 50, 1, 1, stamp), 1);
            cases.test("read of stamp " + stamp, before, x -> x.read(5, 50), stamp);
            cases.test("erase of stamp " + stamp, before, x -> x.erase(5, 50), stamp);
            cases.test("cut of stamp " + stamp, before, x -> x.cut(5, 50, 50), 1);
            cases.test("next to a key with stamp " + stamp, before, x -> x.next(5, 50), 50);
        }
    }

    private static void atFirstNone() {
        cases.sentence("Terms", "A map has for some keys a stamp each; at first none.");
        for (int map : FIRST_AND_LAST_MAP) {
            for (int key : FIRST_AND_LAST_KEY) {
                scenes.onNew("read(" + map + ", " + key + ")", x -> x.read(map, key), NONE);
            }
        }
        cases.test("a key less than the one with a stamp", Scenes::oneKey, x -> x.read(3, 1999), NONE);
        cases.test("a key more than the one with a stamp", Scenes::oneKey, x -> x.read(3, 2001), NONE);
        cases.test("the same key of another map", Scenes::oneKey, x -> x.read(2, 2000), NONE);
    }

    private static void mostKeys() {
        cases.sentence("Terms",
            "All maps together have at most 600 keys (one that two maps have counts twice).");
        scenes.onNew("600 keys of one map", x -> x.spread(4, 0, 6, 600, 0), 600);
        cases.test("600 keys of eight maps", Scenes::fullInEightMaps, x -> x.keys(-1), 600);
        cases.test("601 keys of one map", Scenes::fullInOneMap, x -> x.write(4, 1, 0), FULL);
        cases.test("601 keys of eight maps", Scenes::fullInEightMaps, x -> x.write(7, 0, 0), FULL);
        cases.test("one key that two maps have", Scenes.both(Scenes::oneKey, x -> x.write(4, 2000, 5)),
            x -> x.keys(-1), 2);
        cases.test("one key that a map and its clone have", Scenes.both(Scenes::oneKey, x -> x.clone(4, 3)),
            x -> x.keys(-1), 2);
        Consumer<Face> twice300 = x -> {
            x.spread(0, 0, 1, 300, 0);
            x.clone(1, 0);
        };
        cases.test("300 keys that two maps have are 600", twice300, x -> x.write(1, 300, 0), FULL);
        cases.test("a key less of one of them", Scenes.both(twice300, x -> x.erase(0, 0)),
            x -> x.write(1, 300, 0), 301);
        cases.test("75 keys that eight maps have are 600", x -> {
            x.spread(0, 0, 1, 75, 0);
            for (int map = 1; map < 8; map++) {
                x.clone(map, map - 1);
            }
        }, x -> x.write(7, 75, 0), FULL);
        cases.test("keys as they were kept do not count", x -> {
            Scenes.fullInOneMap(x);
            x.keep();
            x.drop(4);
        }, x -> x.spread(3, 0, 6, 600, 9), 600);
    }

    private static void newObjectIsEmpty() {
        cases.sentence("Promise 1", "All maps are empty");
        for (int m : SIZES) {
            cases.holds("m " + m, () -> new Counted(m).check() == 0
                && new Look(() -> new Counted(m)).difference(new Model().maps()).isEmpty());
        }
        for (int map = 0; map < 8; map++) {
            int number = map;
            scenes.onNew("keys(" + map + ")", x -> x.keys(number), 0);
            scenes.onNew("next(" + map + ", 0)", x -> x.next(number, 0), NONE);
        }
        scenes.onNew("keys(-1)", x -> x.keys(-1), 0);
    }

    private static void newObjectIsKeptEmpty() {
        cases.sentence("Promise 1", "and kept so");
        scenes.onNew("back()", x -> x.back(), 0);
        cases.test("back() from one key", Scenes::oneKey, x -> x.back(), 0);
        cases.test("back() from 600 keys of one map", Scenes::fullInOneMap, x -> x.back(), 0);
        cases.test("back() from 600 keys of eight maps", Scenes::fullInEightMaps, x -> x.back(), 0);
        for (int m : SIZES) {
            cases.holds("back() from 600 keys, m " + m, () -> {
                Counted x = new Counted(m);
                return x.spread(0, 0, 1, 600, 0) == 600 && x.back() == 0 && x.keys(0) == 0
                    && x.next(0, 0) == NONE && x.check() == 0;
            });
        }
    }

    private static void entriesOfNodes() {
        cases.sentence("Promise 1",
            "Nodes of trees have at most m entries (4, if m is less, 31, if it is more).");
        for (int m = 4; m <= 31; m++) {
            nodesOf(m, m);
        }
        for (int m : new int[] {Scenes.LEAST, -1, 0, 1, 2, 3}) {
            nodesOf(m, 4);
        }
        for (int m : new int[] {32, 33, 63, Scenes.GREATEST}) {
            nodesOf(m, 31);
        }
    }

    private static void nodesOf(int m, int most) {
        cases.holds("m " + m + ": " + most + " keys lie in one node", () -> usedBlocks(m, most) == 1);
        cases.holds("m " + m + ": " + (most + 1) + " keys lie in two nodes below a third",
            () -> usedBlocks(m, most + 1) == 3);
        cases.holds("m " + m + ": a node can have " + most + " entries, and none has more", () -> {
            SharedTrees x = new SharedTrees(m);
            Inside inside = new Inside(x);
            int entries = 0;
            for (int i = 0; i < 500; i++) {
                x.write(0, i * 917 % 4096, i);
                entries = Math.max(entries, inside.mostEntries());
            }
            return entries == most && x.check() == 0;
        });
    }

    private static int usedBlocks(int m, int keys) {
        SharedTrees x = new SharedTrees(m);
        x.spread(0, 0, 1, keys, 0);
        return x.check() == 0 ? new Inside(x).usedBlocks() : -1;
    }
}
