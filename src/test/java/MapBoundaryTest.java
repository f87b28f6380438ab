import java.util.function.Consumer;
import java.util.function.ToIntFunction;

/** The boundaries that promises 8 to 13 name, sentence by sentence: maps as a whole. */
public final class MapBoundaryTest {
    private static final int NONE = Face.NONE, FULL = Face.FULL;
    private static final int[] NO_MAPS_OF_KEYS = {Scenes.LEAST, -2, 8, Scenes.GREATEST};

    private static final Cases cases = new Cases();
    private static final Scenes scenes = new Scenes(cases);

    public static void main(String[] args) {
        cloneBecomes();
        cloneBad();
        cloneFull();
        dropEmpties();
        dropBad();
        keepAll();
        backToKept();
        backAgain();
        keysOfMaps();
        keysBad();
        checkIsNothing();
        checkAfterCalls();
        cases.end();
    }

    private static void cloneBecomes() {
        cases.sentence("Promise 8", "One map becomes what another one is: how many keys it has.");
        scenes.onNew("an empty map of an empty one", x -> x.clone(0, 7), 0);
        cases.test("an empty map of one key", Scenes::oneKey, x -> x.clone(0, 3), 1);
        cases.test("a map of one key of an empty one", Scenes::oneKey, x -> x.clone(3, 0), 0);
        scenes.onSome("an empty map of many keys", x -> x.clone(5, 1), 61);
        scenes.onSome("a map of many keys of an empty one", x -> x.clone(1, 5), 0);
        scenes.onSome("the first map of the last one", x -> x.clone(0, 7), 30);
        scenes.onSome("the last map of the first one", x -> x.clone(7, 0), 59);
        scenes.onSome("a map of its own clone", x -> x.clone(0, 1), 61);
        Consumer<Face> cloned = Scenes.both(Scenes::some, x -> x.clone(2, 1));
        cases.test("the same clone again", cloned, x -> x.clone(2, 1), 61);
        cases.test("a map of its clone, which is the same", cloned, x -> x.clone(1, 2), 61);
        cases.test("a clone's keys are those of the map", cloned, x -> x.keys(2), 61);
    }

    private static void cloneBad() {
        cases.sentence("Promise 8", "BAD: no such map, or the same");
        for (int map : Scenes.NO_MAPS) {
            scenes.bad("map " + map + " of map 0", x -> x.clone(map, 0));
            scenes.bad("map 0 of map " + map, x -> x.clone(0, map));
            scenes.bad("map 5 of map " + map, x -> x.clone(5, map));
            scenes.bad("map " + map + " of itself", x -> x.clone(map, map));
        }
        scenes.bad("map -1 of map 8", x -> x.clone(-1, 8));
        for (int map = 0; map < 8; map++) {
            int number = map;
            scenes.bad("map " + map + " of itself", x -> x.clone(number, number));
        }
        cases.test("600 keys of itself", Scenes::fullInOneMap, x -> x.clone(4, 4), Face.BAD);
    }

    private static void cloneFull() {
        cases.sentence("Promise 8", "FULL: all maps would have more than 600.");
        cases.test("300 keys of 300 would be 600", x -> x.spread(0, 0, 1, 300, 0), x -> x.clone(1, 0), 300);
        cases.test("301 keys of 301 would be 602", x -> x.spread(0, 0, 1, 301, 0), x -> x.clone(1, 0), FULL);
        cases.test("300 keys of 301 would be 601", x -> {
            x.spread(0, 0, 1, 300, 0);
            x.write(7, 0, 0);
        }, x -> x.clone(1, 0), FULL);
        cases.test("300 keys of 301, in place of the one, are 600", x -> {
            x.spread(0, 0, 1, 300, 0);
            x.write(7, 0, 0);
        }, x -> x.clone(7, 0), 300);
        cases.test("one key of 600 would be 601", Scenes.both(Scenes::oneShortOfFull, x -> x.write(3, 0, 0)),
            x -> x.clone(4, 3), FULL);
        scenes.onFull("a key more than the map has", x -> x.clone(0, 1), FULL);
        scenes.onFull("as many keys as the map has", x -> x.clone(0, 2), 150);
        scenes.onFull("a key less than the map has", x -> x.clone(1, 0), 150);
        scenes.onFull("no key in place of many", x -> x.clone(1, 5), 0);
        scenes.onFull("no key in place of none", x -> x.clone(4, 5), 0);
        scenes.onFull("many keys in place of none", x -> x.clone(4, 7), FULL);
        cases.test("600 keys in place of none", Scenes::fullInOneMap, x -> x.clone(0, 4), FULL);
        cases.test("none in place of 600 keys", Scenes::fullInOneMap, x -> x.clone(4, 0), 0);
        cases.test("75 keys in place of 75, of 600", Scenes::fullInEightMaps, x -> x.clone(0, 7), 75);
        cases.test("76 keys in place of 75, of 600", x -> {
            Scenes.fullInEightMaps(x);
            x.erase(3, 3);
            x.write(4, 0, 0);
        }, x -> x.clone(7, 4), FULL);
        cases.test("keys as they were kept do not count", x -> {
            x.spread(0, 0, 1, 300, 0);
            x.spread(1, 0, 1, 300, 0);
            x.keep();
            x.drop(1);
        }, x -> x.clone(2, 0), 300);
    }

    private static void dropEmpties() {
        cases.sentence("Promise 9", "A map is empty: how many keys it had.");
        scenes.onNew("an empty map", x -> x.drop(0), 0);
        scenes.onSome("an empty map", x -> x.drop(3), 0);
        scenes.onFull("an empty map", x -> x.drop(3), 0);
        cases.test("one key", Scenes::oneKey, x -> x.drop(3), 1);
        cases.test("600 keys", Scenes::fullInOneMap, x -> x.drop(4), 600);
        scenes.onSome("the first map", x -> x.drop(0), 59);
        scenes.onSome("the last map", x -> x.drop(7), 30);
        scenes.onFull("a map that shares with others", x -> x.drop(1), 151);
        cases.test("twice", Scenes.both(Scenes::full, x -> x.drop(7)), x -> x.drop(7), 0);
        cases.test("all but one of eight", x -> {
            Scenes.fullInEightMaps(x);
            for (int map = 0; map < 7; map++) {
                x.drop(map);
            }
        }, x -> x.drop(7), 75);
        cases.test("it can be written on again", Scenes.both(Scenes::full, x -> x.drop(7)),
            x -> x.write(7, 4095, 1), 1);
    }

    private static void dropBad() {
        cases.sentence("Promise 9", "BAD.");
        for (int map : Scenes.NO_MAPS) {
            scenes.bad("map " + map, x -> x.drop(map));
        }
    }

    private static void keepAll() {
        cases.sentence("Promise 10", "All maps are kept as they are: how many keys they have together.");
        scenes.onNew("no key", x -> x.keep(), 0);
        cases.test("one key", Scenes::oneKey, x -> x.keep(), 1);
        cases.test("600 keys of one map", Scenes::fullInOneMap, x -> x.keep(), 600);
        cases.test("600 keys of eight maps", Scenes::fullInEightMaps, x -> x.keep(), 600);
        scenes.onSome("in place of what was kept", x -> x.keep(), 151);
        scenes.onFull("in place of what was kept", x -> x.keep(), 600);
        cases.test("kept twice", Scenes.both(Scenes::full, x -> x.keep()), x -> x.keep(), 600);
        cases.test("no key in place of 600", x -> {
            Scenes.fullInOneMap(x);
            x.keep();
            x.drop(4);
        }, x -> x.keep(), 0);
        cases.test("what was gone back to", Scenes.both(Scenes::full, x -> x.back()), x -> x.keep(), 450);
        cases.test("a key that two maps have counts twice", Scenes.both(Scenes::oneKey, x -> x.clone(4, 3)),
            x -> x.keep(), 2);
    }

    private static void backToKept() {
        cases.sentence("Promise 11", "All maps are as they were kept last");
        scenes.onNew("nothing was kept yet, and nothing written", x -> x.back(), 0);
        cases.test("nothing was kept yet", Scenes::fullInEightMaps, x -> x.back(), 0);
        scenes.onSome("keys, stamps and maps that came since", x -> x.back(), 150);
        scenes.onFull("600 keys", x -> x.back(), 450);
        Consumer<Face> kept600 = Scenes.both(Scenes::full, x -> x.keep());
        cases.test("nothing came since", kept600, x -> x.back(), 600);
        for (int map : new int[] {0, 1, 7}) {
            cases.test("map " + map + " was dropped since", Scenes.both(kept600, x -> x.drop(map)),
                x -> x.back(), 600);
            cases.test("map " + map + " was cut since", Scenes.both(kept600, x -> x.cut(map, 0, 4095)),
                x -> x.back(), 600);
            cases.test("a stamp of map " + map + " came since", Scenes.both(kept600, x -> x.write(map, 0, 999)),
                x -> x.back(), 600);
            cases.test("a key of map " + map + " went since", Scenes.both(kept600, x -> x.erase(map, 0)),
                x -> x.back(), 600);
        }
        cases.test("kept twice, it is the last", x -> {
            x.spread(0, 0, 1, 100, 0);
            x.keep();
            x.spread(0, 50, 1, 100, 500);
            x.keep();
            x.drop(0);
        }, x -> x.back(), 150);
        cases.test("kept full, then kept empty", x -> {
            Scenes.full(x);
            x.keep();
            for (int map = 0; map < 8; map++) {
                x.drop(map);
            }
            x.keep();
            Scenes.fullInOneMap(x);
        }, x -> x.back(), 0);
        cases.test("600 other keys since", x -> {
            Scenes.fullInOneMap(x);
            x.keep();
            x.drop(4);
            x.spread(5, 1, 6, 600, 9);
        }, x -> x.back(), 600);
    }

    private static void backAgain() {
        cases.sentence("Promise 11", "(they stay kept): how many keys they have together.");
        Consumer<Face> once = Scenes.both(Scenes::full, x -> x.back());
        cases.test("gone back twice", once, x -> x.back(), 450);
        cases.test("gone back, changed, gone back", Scenes.both(once, x -> x.cut(0, 0, 4095)),
            x -> x.back(), 450);
        cases.test("gone back, written over, gone back", Scenes.both(once, x -> x.spread(1, 0, 1, 150, 700)),
            x -> x.back(), 450);
        cases.test("gone back, then a change alone", once, x -> x.erase(2, 149), 149);
        cases.test("gone back to 600 keys: no key more", x -> {
            Scenes.fullInEightMaps(x);
            x.keep();
            x.drop(0);
            x.back();
        }, x -> x.write(0, 1, 0), FULL);
        cases.test("gone back to 600 keys, twice", x -> {
            Scenes.fullInEightMaps(x);
            x.keep();
            x.drop(0);
            x.back();
            x.drop(7);
        }, x -> x.back(), 600);
        cases.test("nothing was kept yet, twice", x -> {
            x.back();
            Scenes.fullInOneMap(x);
        }, x -> x.back(), 0);
        cases.test("ten rounds", x -> {
            Scenes.full(x);
            for (int round = 0; round < 10; round++) {
                x.write(round % 3, round, 5000);
                x.cut(round % 3, 20, 90);
                x.back();
            }
        }, x -> x.back(), 450);
    }

    private static void keysOfMaps() {
        cases.sentence("Promise 12", "How many keys a map has; all together for -1.");
        Consumer<Face> stairs = x -> {
            for (int map = 0; map < 8; map++) {
                x.spread(map, 0, 1, map * map, 0);
            }
        };
        for (int map = 0; map < 8; map++) {
            int number = map;
            scenes.onNew("map " + map, x -> x.keys(number), 0);
            cases.test("map " + map, stairs, x -> x.keys(number), number * number);
            cases.test("map " + map + ", with 600 keys of eight maps", Scenes::fullInEightMaps,
                x -> x.keys(number), 75);
        }
        scenes.onNew("all", x -> x.keys(-1), 0);
        cases.test("all", stairs, x -> x.keys(-1), 140);
        scenes.onFull("all", x -> x.keys(-1), 600);
        cases.test("all, one short of 600", Scenes::oneShortOfFull, x -> x.keys(-1), 599);
        cases.test("600 keys of one map", Scenes::fullInOneMap, x -> x.keys(4), 600);
        cases.test("no key beside them", Scenes::fullInOneMap, x -> x.keys(5), 0);
    }

    private static void keysBad() {
        cases.sentence("Promise 12", "BAD: no such map.");
        for (int map : NO_MAPS_OF_KEYS) {
            scenes.bad("map " + map, x -> x.keys(map));
        }
    }

    private static void checkIsNothing() {
        cases.sentence("Promise 13", "0 if they are as they should be");
        scenes.onNew("no key", x -> x.check(), 0);
        cases.test("one key", Scenes::oneKey, x -> x.check(), 0);
        scenes.onSome("shared and kept", x -> x.check(), 0);
        scenes.onFull("shared and kept", x -> x.check(), 0);
        cases.test("600 keys of one map", Scenes::fullInOneMap, x -> x.check(), 0);
        cases.test("600 keys of eight maps", Scenes::fullInEightMaps, x -> x.check(), 0);
        cases.test("600 keys, and 600 others as they were kept", x -> {
            Scenes.fullInOneMap(x);
            x.keep();
            x.spread(4, 0, 6, 600, 5000);
        }, x -> x.check(), 0);
        cases.test("looked at twice", Scenes.both(Scenes::full, x -> x.check()), x -> x.check(), 0);
        for (int m = 4; m <= 31; m++) {
            int most = m;
            cases.holds("trees that grow and lose levels, m " + m, () -> growsAndShrinks(most));
        }
    }

    /* Up to just above m * m keys a tree of each shape is met: full nodes, and halves of such. */
    private static boolean growsAndShrinks(int m) {
        int keys = Math.min(170, m * m + 2);
        Counted x = new Counted(m);
        boolean due = true;
        for (int i = 0; i < keys; i++) {
            due = due && x.write(0, 4095 - i, i) == i + 1 && (i % 2 == 0 || x.check() == 0);
        }
        for (int i = 0; i < keys; i++) {
            due = due && x.erase(0, 4095 - i) == i && (i % 2 == 0 || x.check() == 0);
        }
        return due && x.keys(0) == 0 && x.check() == 0;
    }

    private static void checkAfterCalls() {
        cases.sentence("Promise 13", "the count of each block is the number of ways to it, from trees and nodes");
        checkAfter("write", x -> x.write(1, 0, 5));
        checkAfter("a BAD write", x -> x.write(8, 0, 5));
        checkAfter("a FULL write", x -> x.write(3, 1, 5));
        checkAfter("spread", x -> x.spread(1, 0, 1, 150, 5));
        checkAfter("a BAD spread", x -> x.spread(1, 0, 0, 150, 5));
        checkAfter("a spread that ends at FULL", x -> x.spread(1, 149, 1, 2, 5));
        checkAfter("read", x -> x.read(1, 0));
        checkAfter("erase", x -> x.erase(1, 0));
        checkAfter("a NONE erase", x -> x.erase(3, 0));
        checkAfter("cut", x -> x.cut(1, 10, 140));
        checkAfter("a BAD cut", x -> x.cut(1, 140, 10));
        checkAfter("next", x -> x.next(1, 0));
        checkAfter("clone", x -> x.clone(1, 0));
        checkAfter("a BAD clone", x -> x.clone(1, 1));
        checkAfter("a FULL clone", x -> x.clone(3, 1));
        checkAfter("drop", x -> x.drop(1));
        checkAfter("a BAD drop", x -> x.drop(8));
        checkAfter("keep", x -> x.keep());
        checkAfter("back", x -> x.back());
        checkAfter("keys", x -> x.keys(1));
        everyBlockIsFreeAgain();
    }

    /* Once, twice, and once all others have let go of what they shared. */
    private static void checkAfter(String name, ToIntFunction<Face> call) {
        cases.test("after " + name, Scenes.both(Scenes::full, call), x -> x.check(), 0);
        cases.test("after " + name + " twice", Scenes.both(Scenes.both(Scenes::full, call), call),
            x -> x.check(), 0);
        cases.test("after " + name + ", and all others dropped", x -> {
            Scenes.full(x);
            call.applyAsInt(x);
            x.drop(0);
            x.drop(2);
            x.drop(7);
            x.keep();
        }, x -> x.check(), 0);
    }

    private static void everyBlockIsFreeAgain() {
        cases.sentence("Promise 13",
            "a block is free just when no way leads to it, neither now nor as it was kept");
        for (int m : new int[] {4, 5, 31}) {
            cases.holds("no key is left now, none was kept, m " + m, () -> {
                SharedTrees x = changed(m);
                x.keep();
                return new Inside(x).usedBlocks() == 0 && x.check() == 0;
            });
            cases.holds("no key is left now, some were kept, m " + m, () -> {
                SharedTrees x = changed(m);
                return new Inside(x).usedBlocks() > 0 && x.check() == 0 && x.back() == 300
                    && x.next(1, 0) == 1 && x.next(3, 0) == NONE;
            });
        }
    }

    private static SharedTrees changed(int m) {
        SharedTrees x = new SharedTrees(m);
        x.spread(0, 0, 1, 150, 0);
        x.clone(1, 0);
        x.keep();
        x.erase(1, 0);
        x.keep();
        x.write(0, 150, 4);
        x.keep();
        x.clone(3, 0);
        x.cut(0, 0, 4095);
        x.drop(1);
        x.cut(3, 0, 100);
        x.drop(3);
        return x;
    }
}
