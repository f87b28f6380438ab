import java.util.Random;

/** Long runs of calls, each answer compared with that of a plain model. */
public final class ModelTest {
    private static final int SAMPLES = 25;
    private static final int[] SIZES = {4, 5, 6, 7, 8, 13, 30, 31};

    private static final Due due = new Due();

    public static void main(String[] args) {
        for (int m : SIZES) {
            for (int seed = 0; seed < 150; seed++) {
                run(m, seed);
            }
        }
        due.end();
    }

    /* Steps with a check behind every third; the last calls look at what is there and at what was kept. */
    private static void run(int m, int seed) {
        Random random = new Random(seed * 100L + m);
        Counted x = new Counted(m);
        Model model = new Model();
        int span = seed % 3 == 0 ? 4096 : seed % 3 == 1 ? 600 : 90;
        int wrongOnes = seed % 4 == 0 ? 10 : 0;
        String at = "m " + m + ", seed " + seed;
        int call = 0;
        while (call < Counted.MOST_CALLS - 4 * SAMPLES - 4) {
            step(x, model, random, span, wrongOnes, at + ", call " + call);
            call++;
            if (call % 4 == 3) {
                due.is(at + ", check() at call " + call, x.check(), 0);
                call++;
            }
        }
        sample(x, model, random, span, at);
        due.is(at + ": back", x.back(), model.back());
        sample(x, model, random, span, at);
        due.is(at + ": check", x.check(), 0);
    }

    private static void sample(Counted x, Model model, Random random, int span, String at) {
        for (int i = 0; i < SAMPLES; i++) {
            int map = random.nextInt(8);
            int key = random.nextInt(span);
            due.is(at + ": next", x.next(map, key), model.next(map, key));
            int there = Math.max(0, model.next(map, key));
            due.is(at + ": read", x.read(map, there), model.read(map, there));
        }
    }

    private static void step(Counted x, Model o, Random random, int span, int wrong, String at) {
        int map = number(random, 8, wrong);
        int other = number(random, 8, wrong);
        int key = number(random, span, wrong);
        int to = number(random, 5, 0) == 0 ? number(random, span, wrong) : key + random.nextInt(40);
        int stamp = number(random, 1_000_000_001, wrong);
        int step = 1 + number(random, random.nextInt(8) == 0 ? 4095 : 9, wrong);
        int many = number(random, random.nextInt(9) == 0 ? 601 : 60, wrong);
        switch (random.nextInt(26)) {
            case 0, 1, 2, 3, 4, 5 ->
                due.is(at + ": write", x.write(map, key, stamp), o.write(map, key, stamp));
            case 6, 7, 8 -> due.is(at + ": spread", x.spread(map, key, step, many, stamp),
                o.spread(map, key, step, many, stamp));
            case 9, 10 -> due.is(at + ": read", x.read(map, key), o.read(map, key));
            case 11, 12, 13, 14, 15 -> {
                int there = o.next(map, key);
                int erased = there >= 0 ? there : key;
                due.is(at + ": erase", x.erase(map, erased), o.erase(map, erased));
            }
            case 16, 17 -> due.is(at + ": cut", x.cut(map, key, to), o.cut(map, key, to));
            case 18 -> due.is(at + ": next", x.next(map, key), o.next(map, key));
            case 19, 20, 21 -> due.is(at + ": clone", x.clone(map, other), o.clone(map, other));
            case 22 -> due.is(at + ": drop", x.drop(map), o.drop(map));
            case 23 -> due.is(at + ": keep", x.keep(), o.keep());
            case 24 -> due.is(at + ": back", x.back(), o.back());
            default -> due.is(at + ": keys", x.keys(map - 1), o.keys(map - 1));
        }
    }

    /* Mostly 0 .. bound - 1; of a hundred, some lie about the ends or anywhere. */
    private static int number(Random random, int bound, int wrongOfHundred) {
        if (random.nextInt(100) >= wrongOfHundred) {
            return random.nextInt(bound);
        }
        switch (random.nextInt(3)) {
            case 0: return -1;
            case 1: return bound;
            default: return random.nextInt();
        }
    }
}
