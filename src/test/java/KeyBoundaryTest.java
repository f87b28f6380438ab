import java.util.function.Consumer;
import java.util.function.ToIntFunction;

/** The boundaries that promises 2 to 7 name, sentence by sentence: keys and stamps of a map. */
public final class KeyBoundaryTest {
    private static final int NONE = Face.NONE, FULL = Face.FULL;
    private static final int LAST_STAMP = Scenes.LAST_STAMP;
    private static final int[] NO_STEPS = {Scenes.LEAST, -1, 0, 4096, Scenes.GREATEST};
    private static final int[] NO_MANY = {Scenes.LEAST, -1, 601, Scenes.GREATEST};

    private static final Cases cases = new Cases();
    private static final Scenes scenes = new Scenes(cases);

    public static void main(String[] args) {
        writeCounts();
        writeBad();
        writeFull();
        spreadKeys();
        spreadStamps();
        spreadEndsAtBad();
        spreadEndsAtFull();
        spreadMany();
        spreadBad();
        readStamp();
        readBad();
        readNone();
        eraseStamp();
        eraseBad();
        eraseNone();
        cutBothEnds();
        cutCounts();
        cutBad();
        nextFromOneOn();
        nextBad();
        nextNone();
        cases.end();
    }

    private static void writeCounts() {
        cases.sentence("Promise 2", "A key has a stamp: how many keys the map has.");
        scenes.onNew("the first key", x -> x.write(3, 2000, 1), 1);
        cases.test("a second key, which is less", Scenes::oneKey, x -> x.write(3, 1999, 1), 2);
        cases.test("a second key, which is more", Scenes::oneKey, x -> x.write(3, 2001, 1), 2);
        cases.test("another stamp of the same key", Scenes::oneKey, x -> x.write(3, 2000, 1), 1);
        cases.test("the same stamp of the same key", Scenes::oneKey, x -> x.write(3, 2000, 0), 1);
        cases.test("a key that was erased", Scenes.both(Scenes::oneKey, x -> x.erase(3, 2000)),
            x -> x.write(3, 2000, 8), 1);
        scenes.onSome("the keys of this map, not of all", x -> x.write(6, 0, 0), 2);
        scenes.onSome("a key that only another map has", x -> x.write(0, 105, 9), 60);
        scenes.onSome("a key that only the kept map has", x -> x.write(0, 200, 9), 60);
        cases.test("the 600th key of a map", x -> x.spread(2, 1, 1, 599, 0), x -> x.write(2, 0, 5), 600);
    }

    private static void writeBad() {
        cases.sentence("Promise 2", "BAD: no such map, key or stamp");
        for (int map : Scenes.NO_MAPS) {
            scenes.bad("write on map " + map, x -> x.write(map, 100, 6));
        }
        for (int key : Scenes.NO_KEYS) {
            scenes.bad("write at key " + key, x -> x.write(0, key, 6));
            scenes.bad("write at key " + key + " of the last map", x -> x.write(7, key, 6));
        }
        for (int stamp : Scenes.NO_STAMPS) {
            scenes.bad("write of stamp " + stamp, x -> x.write(0, 100, stamp));
            scenes.bad("write of stamp " + stamp + " to a key without one", x -> x.write(5, 4000, stamp));
        }
    }

    private static void writeFull() {
        cases.sentence("Promise 2", "FULL: it has none, and all maps have 600 keys.");
        cases.test("the 600th key", Scenes::oneShortOfFull, x -> x.write(7, 1, 5), 149);
        cases.test("the 600th key, first of its map", Scenes::oneShortOfFull, x -> x.write(3, 1, 5), 1);
        scenes.onFull("a key without a stamp", x -> x.write(7, 1, 5), FULL);
        scenes.onFull("a key of an empty map", x -> x.write(3, 0, 5), FULL);
        scenes.onFull("the last key", x -> x.write(7, 4095, 5), FULL);
        scenes.onFull("a key that only another map has", x -> x.write(0, 4095, 5), FULL);
        cases.test("a key that only the kept map has", x -> {
            Scenes.full(x);
            x.erase(0, 3);
            x.write(3, 0, 0);
        }, x -> x.write(0, 3, 5), FULL);
        scenes.onFull("a key with a stamp", x -> x.write(7, 0, 5), 149);
        scenes.onFull("the last key, with a stamp", x -> x.write(1, 4095, 5), 151);
        cases.test("600 keys of one map", Scenes::fullInOneMap, x -> x.write(4, 4095, 5), FULL);
        cases.test("600 keys of another map", Scenes::fullInOneMap, x -> x.write(0, 0, 5), FULL);
        cases.test("600 keys of one map, one with a stamp", Scenes::fullInOneMap, x -> x.write(4, 3594, 5), 600);
        cases.test("600 keys of eight maps", Scenes::fullInEightMaps, x -> x.write(0, 1, 5), FULL);
        roomAgain("erase", x -> x.erase(0, 0));
        roomAgain("cut", x -> x.cut(7, 7, 13));
        roomAgain("drop", x -> x.drop(7));
        roomAgain("clone of a smaller map", x -> x.clone(1, 2));
        roomAgain("back", x -> x.back());
    }

    private static void roomAgain(String name, ToIntFunction<Face> call) {
        cases.test("room again after " + name, Scenes.both(Scenes::full, call), x -> x.write(5, 1, 5), 1);
    }

    private static void spreadKeys() {
        cases.sentence("Promise 3", "Keys from one on, step after step");
        scenes.onNew("a step of 1", x -> x.spread(0, 0, 1, 10, 70), 10);
        scenes.onNew("a step of 2", x -> x.spread(0, 1, 2, 10, 70), 10);
        scenes.onNew("a step of 4094", x -> x.spread(0, 0, 4094, 600, 70), 2);
        scenes.onNew("a step of 4095, to the last key", x -> x.spread(0, 0, 4095, 600, 70), 2);
        scenes.onNew("a step of 4095, past the last key", x -> x.spread(0, 1, 4095, 600, 70), 1);
        scenes.onNew("a step of 1365, to the last key", x -> x.spread(0, 0, 1365, 600, 70), 4);
        scenes.onNew("a step of 1366, past the last key", x -> x.spread(0, 0, 1366, 600, 70), 3);
        scenes.onSome("the first key of all", x -> x.spread(6, 0, 1, 1, 70), 1);
        scenes.onSome("the last key of all", x -> x.spread(6, 4095, 1, 1, 70), 1);
    }

    private static void spreadStamps() {
        cases.sentence("Promise 3", "have a stamp each, which goes up by 1");
        scenes.onNew("from stamp 0 on", x -> x.spread(0, 9, 9, 100, 0), 100);
        scenes.onNew("up to the last stamp", x -> x.spread(0, 9, 9, 100, LAST_STAMP - 99), 100);
        scenes.onSome("over keys that have stamps", x -> x.spread(0, 100, 10, 60, 0), 60);
        scenes.onSome("over every second key", x -> x.spread(1, 100, 5, 119, 3), 119);
        scenes.onSome("between keys that have stamps", x -> x.spread(0, 101, 10, 60, 3), 60);
    }

    private static void spreadEndsAtBad() {
        cases.sentence("Promise 3", "as long as write() is neither BAD");
        scenes.onNew("600 keys end at key 4095", x -> x.spread(0, 3496, 1, 600, 0), 600);
        scenes.onNew("600 keys would end at key 4096", x -> x.spread(0, 3497, 1, 600, 0), 599);
        scenes.onNew("one key to go", x -> x.spread(0, 4095, 1, 600, 0), 1);
        scenes.onNew("two keys to go", x -> x.spread(0, 4094, 1, 600, 0), 2);
        scenes.onNew("one key to go, by a step of 2", x -> x.spread(0, 4094, 2, 600, 0), 1);
        scenes.onNew("600 stamps end at 1,000,000,000", x -> x.spread(0, 0, 1, 600, 999_999_401), 600);
        scenes.onNew("600 stamps would end at 1,000,000,001", x -> x.spread(0, 0, 1, 600, 999_999_402), 599);
        scenes.onNew("one stamp to go", x -> x.spread(0, 0, 1, 600, LAST_STAMP), 1);
        scenes.onNew("two stamps to go", x -> x.spread(0, 0, 1, 600, LAST_STAMP - 1), 2);
        scenes.onNew("stamps end before keys", x -> x.spread(0, 4000, 1, 600, LAST_STAMP - 4), 5);
        scenes.onNew("keys end before stamps", x -> x.spread(0, 4092, 1, 600, LAST_STAMP - 4), 4);
        scenes.onNew("all the greatest numbers", x -> x.spread(7, 4095, 4095, 600, LAST_STAMP), 1);
        scenes.onNew("all the least numbers", x -> x.spread(0, 0, 1, 1, 0), 1);
        scenes.onSome("keys end in a map that has others", x -> x.spread(6, 4090, 1, 600, 8), 6);
        scenes.onFull("stamps end on keys that have some", x -> x.spread(0, 0, 1, 600, LAST_STAMP - 9), 10);
        scenes.onFull("keys end on a key that has a stamp", x -> x.spread(1, 4095, 1, 600, 8), 1);
    }

    private static void spreadEndsAtFull() {
        cases.sentence("Promise 3", "nor FULL");
        scenes.onNew("600 keys", x -> x.spread(0, 0, 6, 600, 0), 600);
        cases.test("599 keys, and one more", Scenes::oneShortOfFull, x -> x.spread(3, 0, 1, 600, 8), 1);
        cases.test("599 keys, and just one more", Scenes::oneShortOfFull, x -> x.spread(3, 0, 1, 1, 8), 1);
        cases.test("one key, and 599 more", Scenes::oneKey, x -> x.spread(3, 0, 1, 600, 8), 599);
        cases.test("one key, of the same 600", Scenes::oneKey, x -> x.spread(3, 1500, 1, 600, 8), 600);
        scenes.onFull("none more", x -> x.spread(3, 0, 1, 600, 8), 0);
        scenes.onFull("none more of a map that has some", x -> x.spread(7, 1, 7, 600, 8), 0);
        scenes.onFull("all keys that have stamps", x -> x.spread(7, 0, 7, 149, 8), 149);
        scenes.onFull("up to the first key without", x -> x.spread(7, 0, 7, 600, 8), 149);
        scenes.onFull("not beyond a key without", x -> x.spread(7, 0, 1, 600, 8), 1);
        cases.test("600 keys of one map, all again", Scenes::fullInOneMap, x -> x.spread(4, 0, 6, 600, 8), 600);
        cases.test("600 keys of eight maps, none more", Scenes::fullInEightMaps,
            x -> x.spread(0, 1, 8, 600, 8), 0);
    }

    private static void spreadMany() {
        cases.sentence("Promise 3", "at most many of them (0 .. 600): how many.");
        scenes.onNew("0", x -> x.spread(0, 0, 1, 0, 0), 0);
        scenes.onSome("0", x -> x.spread(0, 100, 1, 0, 0), 0);
        scenes.onFull("0", x -> x.spread(0, 0, 1, 0, 0), 0);
        scenes.onNew("0 at the greatest numbers", x -> x.spread(7, 4095, 4095, 0, LAST_STAMP), 0);
        scenes.onNew("1", x -> x.spread(0, 0, 1, 1, 0), 1);
        scenes.onNew("2", x -> x.spread(0, 0, 1, 2, 0), 2);
        scenes.onNew("599", x -> x.spread(0, 0, 1, 599, 0), 599);
        scenes.onNew("600", x -> x.spread(0, 0, 1, 600, 0), 600);
        for (int many : NO_MANY) {
            scenes.bad(many + "", x -> x.spread(0, 0, 1, many, 0));
        }
    }

    private static void spreadBad() {
        cases.sentence("Promise 3",
            "BAD: no such map, step is not 1 .. 4095, or another number is not as it should be.");
        for (int many : new int[] {0, 1, 600}) {
            String what = "spread of " + many;
            for (int map : Scenes.NO_MAPS) {
                scenes.bad(what + " on map " + map, x -> x.spread(map, 0, 1, many, 0));
            }
            for (int step : NO_STEPS) {
                scenes.bad(what + " by step " + step, x -> x.spread(0, 0, step, many, 0));
            }
            for (int key : Scenes.NO_KEYS) {
                scenes.bad(what + " from key " + key, x -> x.spread(0, key, 1, many, 0));
            }
            for (int stamp : Scenes.NO_STAMPS) {
                scenes.bad(what + " with stamp " + stamp, x -> x.spread(0, 0, 1, many, stamp));
            }
        }
        // Sums of these would come back into the range of keys and stamps.
        scenes.bad("the least key and the greatest step", x -> x.spread(0, Scenes.LEAST, Scenes.GREATEST, 600, 0));
        scenes.bad("a key and a step that are 0 together", x -> x.spread(0, -1, 1, 600, 0));
        scenes.bad("a step back to keys", x -> x.spread(0, 4096, -1, 600, 0));
        scenes.bad("a stamp that would come to be 0", x -> x.spread(0, 0, 1, 600, -1));
        scenes.bad("all the least ints",
            x -> x.spread(Scenes.LEAST, Scenes.LEAST, Scenes.LEAST, Scenes.LEAST, Scenes.LEAST));
        scenes.bad("all the greatest ints",
            x -> x.spread(Scenes.GREATEST, Scenes.GREATEST, Scenes.GREATEST, Scenes.GREATEST, Scenes.GREATEST));
    }

    private static void readStamp() {
        cases.sentence("Promise 4", "The stamp of a key.");
        cases.test("of the one key, 0", Scenes::oneKey, x -> x.read(3, 2000), 0);
        scenes.onSome("the last stamp of the last key", x -> x.read(6, 4095), LAST_STAMP);
        scenes.onSome("of the first key", x -> x.read(7, 0), 5);
        scenes.onSome("of the least key of a map", x -> x.read(0, 100), 1000);
        scenes.onSome("of the greatest key of a map", x -> x.read(0, 690), 1059);
        scenes.onSome("of a clone's own key", x -> x.read(1, 105), 7);
        scenes.onSome("of a key that the other one has no more", x -> x.read(1, 200), 1010);
        scenes.onFull("of the first key", x -> x.read(7, 0), 50);
        scenes.onFull("of the last key", x -> x.read(1, 4095), 3);
        cases.test("written twice", Scenes.both(Scenes::oneKey, x -> x.write(3, 2000, LAST_STAMP)),
            x -> x.read(3, 2000), LAST_STAMP);
    }

    private static void readBad() {
        cases.sentence("Promise 4", "BAD: no such map, or key");
        for (int map : Scenes.NO_MAPS) {
            scenes.bad("map " + map, x -> x.read(map, 100));
        }
        for (int key : Scenes.NO_KEYS) {
            scenes.bad("key " + key, x -> x.read(0, key));
            scenes.bad("key " + key + " of the last map", x -> x.read(7, key));
        }
    }

    private static void readNone() {
        cases.sentence("Promise 4", "NONE.");
        withoutStamp("read", Face::read);
    }

    private interface OfKey {
        int call(Face x, int map, int key);
    }

    private static void withoutStamp(String name, OfKey of) {
        scenes.onNew(name + " of the first key", x -> of.call(x, 0, 0), NONE);
        scenes.onNew(name + " of the last key", x -> of.call(x, 7, 4095), NONE);
        scenes.onSome(name + " in an empty map", x -> of.call(x, 3, 100), NONE);
        scenes.onSome(name + " just before the least key", x -> of.call(x, 0, 99), NONE);
        scenes.onSome(name + " just behind the least key", x -> of.call(x, 0, 101), NONE);
        scenes.onSome(name + " just before the greatest key", x -> of.call(x, 0, 689), NONE);
        scenes.onSome(name + " just behind the greatest key", x -> of.call(x, 0, 691), NONE);
        scenes.onSome(name + " of the first key, before all", x -> of.call(x, 0, 0), NONE);
        scenes.onSome(name + " of the last key, behind all", x -> of.call(x, 0, 4095), NONE);
        scenes.onSome(name + " of a key that only a clone has", x -> of.call(x, 0, 105), NONE);
        scenes.onSome(name + " of a key that only the kept map has", x -> of.call(x, 0, 200), NONE);
        scenes.onFull(name + " in an empty map", x -> of.call(x, 3, 0), NONE);
        scenes.onFull(name + " of a key between", x -> of.call(x, 7, 6), NONE);
        scenes.onFull(name + " of the last key", x -> of.call(x, 7, 4095), NONE);
        cases.test(name + " of a key that was erased", Scenes.both(Scenes::oneKey, x -> x.erase(3, 2000)),
            x -> of.call(x, 3, 2000), NONE);
        cases.test(name + " of a key that was cut", Scenes.both(Scenes::full, x -> x.cut(0, 5, 5)),
            x -> of.call(x, 0, 5), NONE);
        cases.test(name + " in a map that was dropped", Scenes.both(Scenes::full, x -> x.drop(0)),
            x -> of.call(x, 0, 5), NONE);
        cases.test(name + " in a map that became an empty one", Scenes.both(Scenes::full, x -> x.clone(0, 4)),
            x -> of.call(x, 0, 5), NONE);
        cases.test(name + " of a key that was not kept", Scenes.both(Scenes::full, x -> x.back()),
            x -> of.call(x, 1, 4095), NONE);
    }

    private static void eraseStamp() {
        cases.sentence("Promise 5", "A key has none any more: the stamp that it had.");
        cases.test("the one key, whose stamp is 0", Scenes::oneKey, x -> x.erase(3, 2000), 0);
        cases.test("the first key of two", Scenes::firstAndLastKey, x -> x.erase(3, 0), 11);
        cases.test("the last key of two", Scenes::firstAndLastKey, x -> x.erase(3, 4095), 12);
        scenes.onSome("the last stamp of the last key", x -> x.erase(6, 4095), LAST_STAMP);
        scenes.onSome("the least key of a map", x -> x.erase(0, 100), 1000);
        scenes.onSome("the greatest key of a map", x -> x.erase(0, 690), 1059);
        scenes.onSome("a clone's own key", x -> x.erase(1, 105), 7);
        scenes.onFull("the first key", x -> x.erase(7, 0), 50);
        scenes.onFull("the last key", x -> x.erase(1, 4095), 3);
        cases.test("one of 600 keys of a map", Scenes::fullInOneMap, x -> x.erase(4, 3594), 599);
        eraseKeyByKey();
    }

    /* Nodes come to have the fewest entries that they may have, and trees lose levels. */
    private static void eraseKeyByKey() {
        for (int order : new int[] {1, 39, 67}) {
            for (int m : new int[] {4, 5, 6, 7, 30, 31}) {
                cases.holds("40 keys, each " + order + "th, m " + m, () -> {
                    Counted x = new Counted(m);
                    x.spread(2, 0, 1, 40, 900);
                    boolean due = x.check() == 0;
                    for (int i = 0; i < 40; i++) {
                        int key = i * order % 40;
                        due = due && x.erase(2, key) == 900 + key && x.check() == 0
                            && x.read(2, key) == NONE && x.keys(2) == 39 - i;
                    }
                    return due && x.next(2, 0) == NONE;
                });
            }
        }
    }

    private static void eraseBad() {
        cases.sentence("Promise 5", "BAD");
        for (int map : Scenes.NO_MAPS) {
            scenes.bad("map " + map, x -> x.erase(map, 100));
        }
        for (int key : Scenes.NO_KEYS) {
            scenes.bad("key " + key, x -> x.erase(0, key));
            scenes.bad("key " + key + " of the last map", x -> x.erase(7, key));
        }
    }

    private static void eraseNone() {
        cases.sentence("Promise 5", "NONE.");
        withoutStamp("erase", Face::erase);
    }

    private static void cutBothEnds() {
        cases.sentence("Promise 6", "All keys from one on, up to another one (both, too), have none any more");
        scenes.onSome("from a key to a key", x -> x.cut(0, 300, 400), 11);
        scenes.onSome("from behind a key to a key", x -> x.cut(0, 301, 400), 10);
        scenes.onSome("from a key to before a key", x -> x.cut(0, 300, 399), 10);
        scenes.onSome("from behind a key to before a key", x -> x.cut(0, 301, 399), 9);
        scenes.onSome("from before a key to behind a key", x -> x.cut(0, 299, 401), 11);
        scenes.onSome("one key alone", x -> x.cut(0, 300, 300), 1);
        scenes.onSome("the least key alone", x -> x.cut(0, 0, 100), 1);
        scenes.onSome("all before the least key", x -> x.cut(0, 0, 99), 0);
        scenes.onSome("the greatest key alone", x -> x.cut(0, 690, 4095), 1);
        scenes.onSome("all behind the greatest key", x -> x.cut(0, 691, 4095), 0);
        scenes.onSome("all but the least key", x -> x.cut(0, 101, 4095), 58);
        scenes.onSome("all but the greatest key", x -> x.cut(0, 0, 689), 58);
        scenes.onSome("the first key of all", x -> x.cut(7, 0, 0), 1);
        scenes.onSome("the last key of all", x -> x.cut(6, 4095, 4095), 1);
        cases.test("the first key of two", Scenes::firstAndLastKey, x -> x.cut(3, 0, 4094), 1);
        cases.test("the last key of two", Scenes::firstAndLastKey, x -> x.cut(3, 1, 4095), 1);
        cases.test("what lies between two keys", Scenes::firstAndLastKey, x -> x.cut(3, 1, 4094), 0);
        cases.test("both keys", Scenes::firstAndLastKey, x -> x.cut(3, 0, 4095), 2);
    }

    private static void cutCounts() {
        cases.sentence("Promise 6", "how many had.");
        scenes.onNew("an empty map", x -> x.cut(0, 0, 4095), 0);
        scenes.onSome("an empty map", x -> x.cut(3, 0, 4095), 0);
        scenes.onSome("no key between", x -> x.cut(0, 301, 309), 0);
        scenes.onSome("one that has none", x -> x.cut(0, 301, 301), 0);
        scenes.onSome("a whole map", x -> x.cut(1, 0, 4095), 61);
        scenes.onSome("a whole map, from its least to its greatest key", x -> x.cut(1, 100, 690), 61);
        cases.test("twice", Scenes.both(Scenes::some, x -> x.cut(0, 300, 400)), x -> x.cut(0, 300, 400), 0);
        scenes.onFull("a whole map", x -> x.cut(7, 0, 4095), 149);
        scenes.onFull("an empty map", x -> x.cut(3, 0, 4095), 0);
        cases.test("600 keys", Scenes::fullInOneMap, x -> x.cut(4, 0, 4095), 600);
        cases.test("599 of 600 keys", Scenes::fullInOneMap, x -> x.cut(4, 1, 3594), 599);
    }

    private static void cutBad() {
        cases.sentence("Promise 6", "BAD: no such map, or key, or the second is less.");
        for (int map : Scenes.NO_MAPS) {
            scenes.bad("map " + map, x -> x.cut(map, 0, 4095));
        }
        for (int key : Scenes.NO_KEYS) {
            scenes.bad("from " + key, x -> x.cut(0, key, 4095));
            scenes.bad("up to " + key, x -> x.cut(0, 0, key));
            scenes.bad("both " + key, x -> x.cut(0, key, key));
        }
        scenes.bad("the second is less by 1", x -> x.cut(0, 101, 100));
        scenes.bad("the second is less by 1, at the first key", x -> x.cut(0, 1, 0));
        scenes.bad("the second is less by 1, at the last key", x -> x.cut(0, 4095, 4094));
        scenes.bad("the second is less by the most", x -> x.cut(0, 4095, 0));
        scenes.bad("from the least to the greatest int", x -> x.cut(0, Scenes.LEAST, Scenes.GREATEST));
        scenes.bad("the second is less, of an empty map", x -> x.cut(3, 5, 4));
        scenes.onSome("both are the same", x -> x.cut(0, 100, 100), 1);
    }

    private static void nextFromOneOn() {
        cases.sentence("Promise 7", "The least key that has a stamp, from one on.");
        scenes.onSome("from the first key on", x -> x.next(0, 0), 100);
        scenes.onSome("from just before a key on", x -> x.next(0, 99), 100);
        scenes.onSome("from a key itself on", x -> x.next(0, 100), 100);
        scenes.onSome("from just behind a key on", x -> x.next(0, 101), 110);
        scenes.onSome("over a key that was erased", x -> x.next(0, 191), 210);
        scenes.onSome("to the greatest key", x -> x.next(0, 681), 690);
        scenes.onSome("from the greatest key on", x -> x.next(0, 690), 690);
        scenes.onSome("the first key from itself on", x -> x.next(7, 0), 0);
        scenes.onSome("the last key from the first on", x -> x.next(6, 0), 4095);
        scenes.onSome("the last key from itself on", x -> x.next(6, 4095), 4095);
        cases.test("over all keys between", Scenes::firstAndLastKey, x -> x.next(3, 1), 4095);
        scenes.onFull("over all nodes between", x -> x.next(1, 150), 4095);
        cases.test("the greatest of 600 keys", Scenes::fullInOneMap, x -> x.next(4, 3589), 3594);
        nextOfEachKey();
    }

    /* From each key on, so that each end of each node is met. */
    private static void nextOfEachKey() {
        for (int m : new int[] {4, 5, 6, 7, 30, 31}) {
            cases.holds("200 keys, from each, before each and behind each, m " + m, () -> {
                boolean due = true;
                for (int beside = -1; beside <= 1; beside++) {
                    Counted x = new Counted(m);
                    x.spread(5, 10, 20, 200, 0);
                    for (int key = 10; key <= 3990; key += 20) {
                        int want = beside <= 0 ? key : key < 3990 ? key + 20 : NONE;
                        due = due && x.next(5, key + beside) == want;
                    }
                }
                return due;
            });
        }
    }

    private static void nextBad() {
        cases.sentence("Promise 7", "BAD");
        for (int map : Scenes.NO_MAPS) {
            scenes.bad("map " + map, x -> x.next(map, 0));
        }
        for (int key : Scenes.NO_KEYS) {
            scenes.bad("key " + key, x -> x.next(0, key));
            scenes.bad("key " + key + " of the last map", x -> x.next(7, key));
        }
    }

    private static void nextNone() {
        cases.sentence("Promise 7", "NONE.");
        scenes.onNew("from the first key on", x -> x.next(0, 0), NONE);
        scenes.onNew("from the last key on", x -> x.next(7, 4095), NONE);
        scenes.onSome("in an empty map", x -> x.next(3, 0), NONE);
        scenes.onSome("from just behind the greatest key on", x -> x.next(0, 691), NONE);
        scenes.onSome("from the last key on", x -> x.next(0, 4095), NONE);
        scenes.onFull("in an empty map", x -> x.next(3, 0), NONE);
        scenes.onFull("from just behind the greatest key on", x -> x.next(7, 1037), NONE);
        Consumer<Face> erased = Scenes.both(Scenes::oneKey, x -> x.erase(3, 2000));
        cases.test("once the one key is erased", erased, x -> x.next(3, 0), NONE);
        cases.test("once all is cut", Scenes.both(Scenes::full, x -> x.cut(7, 0, 4095)),
            x -> x.next(7, 0), NONE);
        cases.test("once a map is dropped", Scenes.both(Scenes::full, x -> x.drop(0)),
            x -> x.next(0, 0), NONE);
        cases.test("from behind a greatest key that was erased", Scenes.both(Scenes::some, x -> x.erase(0, 690)),
            x -> x.next(0, 681), NONE);
    }
}
