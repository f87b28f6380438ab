/** Each promise by itself: ordinary inputs, the edges that the document names, wrong inputs. */
public final class PromiseTest {
    private static final int BAD = -1, NONE = -2, FULL = -3;
    private static final int[] NO_MAPS = {-1, 8, 9, Integer.MIN_VALUE, Integer.MAX_VALUE};
    private static final int[] NO_KEYS = {-1, 4096, Integer.MIN_VALUE, Integer.MAX_VALUE};
    private static final int[] NO_STAMPS = {-1, 1_000_000_001, Integer.MIN_VALUE, Integer.MAX_VALUE};
    private static final int[] SIZES =
        {Integer.MIN_VALUE, -1, 0, 3, 4, 5, 6, 7, 8, 15, 16, 30, 31, 32, Integer.MAX_VALUE};

    private static final Due due = new Due();

    public static void main(String[] args) {
        due.is("BAD", SharedTrees.BAD, BAD);
        due.is("NONE", SharedTrees.NONE, NONE);
        due.is("FULL", SharedTrees.FULL, FULL);
        promise1NewObject();
        promise2Write();
        promise2WriteFull();
        promise3Spread();
        promise3SpreadEnds();
        promise3SpreadBad();
        promise4Read();
        promise5Erase();
        promise6Cut();
        promise7Next();
        promise8Clone();
        promise8CloneFull();
        promise9Drop();
        promise10Keep();
        promise11Back();
        promise12Keys();
        promise13Check();
        due.end();
    }

    private static void promise1NewObject() {
        for (int m : SIZES) {
            SharedTrees x = new SharedTrees(m);
            due.is("check() of a new object, m " + m, x.check(), 0);
            due.is("keys(-1)", x.keys(-1), 0);
            for (int map = 0; map < 8; map++) {
                due.is("keys(" + map + ")", x.keys(map), 0);
                due.is("next(" + map + ", 0)", x.next(map, 0), NONE);
            }
            due.is("spread", x.spread(5, 0, 1, 600, 0), 600);
            due.is("check() of a full tree, m " + m, x.check(), 0);
            due.is("back() to what a new object kept", x.back(), 0);
            due.is("keys(5)", x.keys(5), 0);
            due.is("read(5, 0)", x.read(5, 0), NONE);
            due.is("check()", x.check(), 0);
        }
    }

    private static void promise2Write() {
        SharedTrees x = new SharedTrees(4);
        due.is("first key", x.write(7, 0, 0), 1);
        due.is("last key", x.write(7, 4095, 1_000_000_000), 2);
        due.is("a key between", x.write(7, 77, 5), 3);
        due.is("again", x.write(7, 77, 6), 3);
        due.is("another map", x.write(0, 77, 9), 1);
        for (int map : NO_MAPS) {
            due.is("write to map " + map, x.write(map, 1, 1), BAD);
        }
        for (int key : NO_KEYS) {
            due.is("write at key " + key, x.write(7, key, 1), BAD);
        }
        for (int stamp : NO_STAMPS) {
            due.is("write of stamp " + stamp, x.write(7, 77, stamp), BAD);
            due.is("write of stamp " + stamp, x.write(7, 78, stamp), BAD);
        }
        due.is("read(7, 0)", x.read(7, 0), 0);
        due.is("read(7, 4095)", x.read(7, 4095), 1_000_000_000);
        due.is("read(7, 77)", x.read(7, 77), 6);
        due.is("read(7, 78)", x.read(7, 78), NONE);
        due.is("read(0, 77)", x.read(0, 77), 9);
        due.is("keys(-1)", x.keys(-1), 4);
        due.is("check()", x.check(), 0);
    }

    private static void promise2WriteFull() {
        SharedTrees x = new SharedTrees(7);
        for (int map = 0; map < 8; map++) {
            x.spread(map, map, 8, 75, map);
        }
        due.is("keys(-1)", x.keys(-1), 600);
        due.is("a key too many", x.write(3, 4, 1), FULL);
        due.is("a key that is there", x.write(3, 3, 1), 75);
        due.is("BAD comes before FULL", x.write(3, 4, -1), BAD);
        due.is("BAD comes before FULL", x.write(8, 4, 1), BAD);
        due.is("BAD comes before FULL", x.write(3, 4096, 1), BAD);
        due.is("read(3, 4)", x.read(3, 4), NONE);
        due.is("erase", x.erase(6, 6), 6);
        due.is("the place is free", x.write(3, 4, 1), 76);
        due.is("and taken again", x.write(6, 6, 1), FULL);
        due.is("check()", x.check(), 0);
    }

    private static void promise3Spread() {
        SharedTrees x = new SharedTrees(4);
        due.is("spread", x.spread(2, 10, 7, 50, 300), 50);
        for (int i = 0; i < 50; i++) {
            due.is("read(2, " + (10 + 7 * i) + ")", x.read(2, 10 + 7 * i), 300 + i);
            due.is("read beside", x.read(2, 11 + 7 * i), NONE);
        }
        due.is("keys(2)", x.keys(2), 50);
        due.is("over what is there", x.spread(2, 10, 1, 14, 0), 14);
        due.is("keys(2)", x.keys(2), 62);
        due.is("read(2, 17)", x.read(2, 17), 7);
        due.is("none of them", x.spread(2, 0, 1, 0, 0), 0);
        due.is("read(2, 0)", x.read(2, 0), NONE);
        due.is("a step of 4095", x.spread(3, 0, 4095, 600, 0), 2);
        due.is("read(3, 4095)", x.read(3, 4095), 1);
        due.is("check()", x.check(), 0);
    }

    private static void promise3SpreadEnds() {
        SharedTrees x = new SharedTrees(4);
        due.is("up to the last key", x.spread(0, 4090, 1, 600, 0), 6);
        due.is("up to the last stamp", x.spread(1, 0, 1, 600, 999_999_998), 3);
        due.is("read(1, 2)", x.read(1, 2), 1_000_000_000);
        due.is("read(1, 3)", x.read(1, 3), NONE);
        due.is("up to 600 keys", x.spread(2, 5, 5, 600, 0), 591);
        due.is("keys(-1)", x.keys(-1), 600);
        due.is("no key more", x.spread(2, 4, 1, 600, 0), 0);
        due.is("while keys are there", x.spread(1, 1, 1, 600, 70), 2);
        due.is("read(1, 2)", x.read(1, 2), 71);
        due.is("all that are there", x.spread(2, 5, 5, 600, 9), 591);
        due.is("check()", x.check(), 0);
    }

    private static void promise3SpreadBad() {
        SharedTrees x = new SharedTrees(4);
        for (int map : NO_MAPS) {
            due.is("spread on map " + map, x.spread(map, 0, 1, 1, 0), BAD);
        }
        for (int key : NO_KEYS) {
            due.is("spread from key " + key, x.spread(0, key, 1, 1, 0), BAD);
            due.is("spread of none from key " + key, x.spread(0, key, 1, 0, 0), BAD);
        }
        for (int stamp : NO_STAMPS) {
            due.is("spread of stamp " + stamp, x.spread(0, 0, 1, 1, stamp), BAD);
            due.is("spread of none of stamp " + stamp, x.spread(0, 0, 1, 0, stamp), BAD);
        }
        for (int step : new int[] {0, -1, 4096, Integer.MIN_VALUE, Integer.MAX_VALUE}) {
            due.is("spread by step " + step, x.spread(0, 0, step, 1, 0), BAD);
        }
        for (int many : new int[] {-1, 601, Integer.MIN_VALUE, Integer.MAX_VALUE}) {
            due.is("spread of " + many, x.spread(0, 0, 1, many, 0), BAD);
        }
        due.is("keys(-1)", x.keys(-1), 0);
        due.is("check()", x.check(), 0);
    }

    private static void promise4Read() {
        SharedTrees x = new SharedTrees(5);
        due.is("read of an empty map", x.read(1, 0), NONE);
        x.spread(1, 100, 3, 100, 7);
        due.is("read(1, 99)", x.read(1, 99), NONE);
        due.is("read(1, 100)", x.read(1, 100), 7);
        due.is("read(1, 101)", x.read(1, 101), NONE);
        due.is("read(1, 397)", x.read(1, 397), 106);
        due.is("read(1, 398)", x.read(1, 398), NONE);
        due.is("read(1, 4095)", x.read(1, 4095), NONE);
        due.is("read(2, 100)", x.read(2, 100), NONE);
        for (int map : NO_MAPS) {
            due.is("read of map " + map, x.read(map, 100), BAD);
        }
        for (int key : NO_KEYS) {
            due.is("read of key " + key, x.read(1, key), BAD);
        }
    }

    private static void promise5Erase() {
        for (int m : SIZES) {
            SharedTrees x = new SharedTrees(m);
            x.spread(4, 0, 2, 150, 1000);
            for (int i = 0; i < 150; i++) {
                int key = i * 2 * 67 % 300;
                due.is("erase(4, " + key + ")", x.erase(4, key), 1000 + key / 2);
                due.is("erase again", x.erase(4, key), NONE);
                due.is("keys(4)", x.keys(4), 149 - i);
            }
            due.is("erase from an empty map", x.erase(4, 0), NONE);
            due.is("check()", x.check(), 0);
        }
        SharedTrees x = new SharedTrees(4);
        x.write(0, 1, 0);
        for (int map : NO_MAPS) {
            due.is("erase on map " + map, x.erase(map, 1), BAD);
        }
        for (int key : NO_KEYS) {
            due.is("erase of key " + key, x.erase(0, key), BAD);
        }
        due.is("erase beside", x.erase(0, 0), NONE);
        due.is("keys(-1)", x.keys(-1), 1);
        due.is("a stamp of 0 is one", x.erase(0, 1), 0);
        due.is("keys(-1)", x.keys(-1), 0);
    }

    private static void promise6Cut() {
        for (int m : SIZES) {
            SharedTrees x = new SharedTrees(m);
            x.spread(0, 10, 10, 400, 1);
            due.is("between two keys", x.cut(0, 11, 19), 0);
            due.is("one key", x.cut(0, 100, 100), 1);
            due.is("from a key", x.cut(0, 200, 209), 1);
            due.is("up to a key", x.cut(0, 291, 300), 1);
            due.is("both ends, too", x.cut(0, 500, 900), 41);
            due.is("none is left", x.cut(0, 500, 900), 0);
            due.is("read(0, 490)", x.read(0, 490), 49);
            due.is("read(0, 500)", x.read(0, 500), NONE);
            due.is("read(0, 900)", x.read(0, 900), NONE);
            due.is("read(0, 910)", x.read(0, 910), 91);
            due.is("keys(0)", x.keys(0), 356);
            due.is("check()", x.check(), 0);
            due.is("the first ones", x.cut(0, 0, 50), 5);
            due.is("the last ones", x.cut(0, 3990, 4095), 2);
            due.is("all", x.cut(0, 0, 4095), 349);
            due.is("an empty map", x.cut(0, 0, 4095), 0);
            due.is("check()", x.check(), 0);
        }
        SharedTrees x = new SharedTrees(4);
        x.spread(0, 0, 1, 9, 0);
        for (int map : NO_MAPS) {
            due.is("cut on map " + map, x.cut(map, 0, 4095), BAD);
        }
        for (int key : NO_KEYS) {
            due.is("cut from " + key, x.cut(0, key, 4095), BAD);
            due.is("cut to " + key, x.cut(0, 0, key), BAD);
        }
        due.is("the second is less", x.cut(0, 5, 4), BAD);
        due.is("keys(-1)", x.keys(-1), 9);
    }

    private static void promise7Next() {
        for (int m : SIZES) {
            SharedTrees x = new SharedTrees(m);
            due.is("next of an empty map", x.next(6, 0), NONE);
            x.spread(6, 5, 9, 120, 0);
            int last = 5 + 9 * 119;
            for (int key = 0; key <= last + 1; key += 4) {
                int want = key > last ? NONE : key <= 5 ? 5 : 5 + (key - 5 + 8) / 9 * 9;
                due.is("next(6, " + key + ")", x.next(6, key), want);
            }
            due.is("the last one", x.next(6, last), last);
            due.is("behind it", x.next(6, last + 1), NONE);
            due.is("the last key", x.next(6, 4095), NONE);
            x.write(6, 4095, 1);
            due.is("the last key", x.next(6, 4095), 4095);
            due.is("up to the last key", x.next(6, last + 1), 4095);
        }
        SharedTrees x = new SharedTrees(4);
        for (int map : NO_MAPS) {
            due.is("next of map " + map, x.next(map, 0), BAD);
        }
        for (int key : NO_KEYS) {
            due.is("next of key " + key, x.next(0, key), BAD);
        }
    }

    private static void promise8Clone() {
        SharedTrees x = new SharedTrees(4);
        x.spread(0, 0, 1, 60, 100);
        x.spread(1, 1000, 1, 9, 5);
        due.is("clone", x.clone(1, 0), 60);
        due.is("what it had is gone", x.read(1, 1000), NONE);
        due.is("keys(-1)", x.keys(-1), 120);
        due.is("write on the clone", x.write(1, 30, 1), 60);
        due.is("a key more on the clone", x.write(1, 60, 2), 61);
        due.is("a key less on the clone", x.erase(1, 0), 100);
        due.is("a cut of the first one", x.cut(0, 40, 49), 10);
        due.is("the first one is as it was", x.read(0, 30), 130);
        due.is("the first one is as it was", x.read(0, 60), NONE);
        due.is("the first one is as it was", x.read(0, 0), 100);
        due.is("the clone is as it was", x.read(1, 45), 145);
        due.is("keys(0)", x.keys(0), 50);
        due.is("keys(1)", x.keys(1), 60);
        due.is("check()", x.check(), 0);
        due.is("clone of an empty map", x.clone(0, 7), 0);
        due.is("keys(0)", x.keys(0), 0);
        due.is("the clone outlives it", x.read(1, 45), 145);
        due.is("the same", x.clone(1, 1), BAD);
        for (int map : NO_MAPS) {
            due.is("clone to " + map, x.clone(map, 1), BAD);
            due.is("clone from " + map, x.clone(1, map), BAD);
        }
        due.is("keys(-1)", x.keys(-1), 60);
        due.is("check()", x.check(), 0);
    }

    private static void promise8CloneFull() {
        SharedTrees x = new SharedTrees(31);
        x.spread(0, 0, 1, 250, 0);
        x.spread(1, 0, 1, 101, 0);
        due.is("one key too many", x.clone(2, 0), FULL);
        due.is("601 keys", x.keys(2), 0);
        x.erase(1, 0);
        due.is("600 keys", x.clone(2, 0), 250);
        due.is("the map's own keys go", x.clone(2, 1), 100);
        due.is("keys(-1)", x.keys(-1), 450);
        x.spread(3, 0, 1, 150, 0);
        due.is("as many as it had", x.keys(-1), 600);
        due.is("all maps have 600, and still", x.clone(1, 2), 100);
        due.is("more than it had", x.clone(1, 3), FULL);
        due.is("keys(1)", x.keys(1), 100);
        due.is("BAD comes before FULL", x.clone(3, 3), BAD);
        due.is("check()", x.check(), 0);
    }

    private static void promise9Drop() {
        SharedTrees x = new SharedTrees(4);
        due.is("an empty map", x.drop(0), 0);
        x.spread(0, 0, 3, 200, 0);
        x.clone(1, 0);
        due.is("drop", x.drop(0), 200);
        due.is("again", x.drop(0), 0);
        due.is("keys(0)", x.keys(0), 0);
        due.is("next(0, 0)", x.next(0, 0), NONE);
        due.is("keys(-1)", x.keys(-1), 200);
        due.is("the other one stays", x.read(1, 597), 199);
        due.is("check()", x.check(), 0);
        for (int map : NO_MAPS) {
            due.is("drop of " + map, x.drop(map), BAD);
        }
        due.is("the other one", x.drop(1), 200);
        due.is("keys(-1)", x.keys(-1), 0);
        due.is("all blocks are free", x.check(), 0);
    }

    private static void promise10Keep() {
        SharedTrees x = new SharedTrees(4);
        due.is("keep of nothing", x.keep(), 0);
        x.spread(0, 0, 1, 100, 0);
        x.spread(7, 0, 1, 50, 0);
        due.is("keep", x.keep(), 150);
        x.drop(0);
        due.is("keep what is now", x.keep(), 50);
        due.is("back to what was kept last", x.back(), 50);
        due.is("keys(0)", x.keys(0), 0);
        x.write(7, 0, 8);
        due.is("keep a stamp", x.keep(), 50);
        due.is("keep changes nothing", x.read(7, 0), 8);
        x.write(7, 0, 9);
        due.is("read", x.read(7, 0), 9);
        x.back();
        due.is("the stamp as it was kept", x.read(7, 0), 8);
        due.is("check()", x.check(), 0);
    }

    private static void promise11Back() {
        SharedTrees x = new SharedTrees(4);
        x.spread(0, 0, 1, 300, 0);
        x.clone(1, 0);
        x.keep();
        for (int round = 0; round < 3; round++) {
            due.is("cut", x.cut(0, 0, 4095), 300);
            due.is("erase", x.erase(1, 299), 299);
            due.is("spread", x.spread(1, 0, 2, 150, 5000), 150);
            due.is("spread", x.spread(2, 4095, 1, 1, 1), 1);
            due.is("check()", x.check(), 0);
            due.is("back", x.back(), 600);
            due.is("back again", x.back(), 600);
            due.is("keys(-1)", x.keys(-1), 600);
            due.is("keys(0)", x.keys(0), 300);
            due.is("keys(1)", x.keys(1), 300);
            due.is("keys(2)", x.keys(2), 0);
            due.is("read(0, 150)", x.read(0, 150), 150);
            due.is("read(1, 150)", x.read(1, 150), 150);
            due.is("read(1, 299)", x.read(1, 299), 299);
            due.is("read(2, 4095)", x.read(2, 4095), NONE);
            due.is("no key more", x.write(2, 0, 0), FULL);
            due.is("check()", x.check(), 0);
        }
    }

    private static void promise12Keys() {
        SharedTrees x = new SharedTrees(4);
        for (int map = 0; map < 8; map++) {
            x.spread(map, 0, 1, map + 1, 0);
        }
        for (int map = 0; map < 8; map++) {
            due.is("keys(" + map + ")", x.keys(map), map + 1);
        }
        due.is("keys(-1)", x.keys(-1), 36);
        x.clone(0, 7);
        due.is("a key that two maps have counts twice", x.keys(-1), 43);
        for (int map : new int[] {-2, 8, 9, Integer.MIN_VALUE, Integer.MAX_VALUE}) {
            due.is("keys(" + map + ")", x.keys(map), BAD);
        }
    }

    private static void promise13Check() {
        for (int m : SIZES) {
            SharedTrees x = new SharedTrees(m);
            x.spread(0, 1000, 2, 200, 0);
            due.is("after spread", x.check(), 0);
            x.clone(1, 0);
            due.is("after clone", x.check(), 0);
            x.keep();
            due.is("after keep", x.check(), 0);
            x.spread(1, 1001, 2, 200, 0);
            due.is("after spread on the clone", x.check(), 0);
            x.cut(1, 1100, 1300);
            due.is("after cut", x.check(), 0);
            x.clone(2, 1);
            due.is("after clone", x.check(), 0);
            x.cut(0, 0, 1398);
            due.is("a root that lies below in another tree", x.check(), 0);
            x.drop(1);
            due.is("after drop", x.check(), 0);
            x.back();
            due.is("after back", x.check(), 0);
            x.keep();
            x.cut(0, 0, 4095);
            x.cut(1, 0, 4095);
            due.is("after all is cut", x.check(), 0);
            x.keep();
            due.is("after nothing is kept", x.check(), 0);
            due.is("check changes nothing", x.keys(-1), 0);
        }
    }
}
