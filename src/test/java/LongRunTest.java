import java.util.Random;

/**
 * Runs of 512 calls in which maps become one another, are written on, kept, and go back. All
 * answers are compared with the model's; and after a part of the run all that the maps have, now
 * and as they were kept, is read and compared, too.
 */
public final class LongRunTest {
    private static final int CALLS = Counted.MOST_CALLS;
    private static final int[] CALLS_BEFORE_LOOK = {100, 250, 400};
    private static final int[] SIZES = {4, 5, 8, 31};
    private static final int[] SPANS = {60, 400, 4096};
    private static final int RUNS = 30;

    private static final Due due = new Due();

    public static void main(String[] args) {
        for (int m : SIZES) {
            for (int run = 0; run < RUNS; run++) {
                answersOf(m, run);
                mapsAfter(m, run, CALLS_BEFORE_LOOK[run / SPANS.length % CALLS_BEFORE_LOOK.length]);
            }
        }
        due.end();
    }

    private static void answersOf(int m, int run) {
        int[] got = ran(new Counted(m), run, CALLS);
        int[] want = ran(new Model(), run, CALLS);
        for (int call = 0; call < CALLS; call++) {
            due.is("m " + m + ", run " + run + ", call " + call, got[call], want[call]);
        }
    }

    private static void mapsAfter(int m, int run, int calls) {
        Model model = new Model();
        ran(model, run, calls);
        String at = "m " + m + ", run " + run + " after " + calls + " calls: ";
        String now = new Look(() -> after(m, run, calls)).difference(model.maps());
        due.holds(at + now, now.isEmpty());
        String kept = new Look(() -> goneBack(after(m, run, calls))).difference(model.keptMaps());
        due.holds(at + "as it was kept: " + kept, kept.isEmpty());
    }

    private static Counted after(int m, int run, int calls) {
        Counted x = new Counted(m);
        ran(x, run, calls);
        return x;
    }

    private static Counted goneBack(Counted x) {
        x.back();
        return x;
    }

    /** The same calls whatever they answer, so that a run can be made again. */
    private static int[] ran(Face x, int run, int calls) {
        Random random = new Random(run);
        int[] answers = new int[calls];
        for (int call = 0; call < calls; call++) {
            answers[call] = step(x, random, SPANS[run % SPANS.length]);
        }
        return answers;
    }

    private static int step(Face x, Random random, int span) {
        int kind = random.nextInt(32);
        int map = random.nextInt(8);
        int other = random.nextInt(8);
        int key = random.nextInt(span);
        int stamp = random.nextInt(1_000_000_001);
        int many = random.nextInt(50);
        if (kind < 7) {
            return x.clone(map, other);
        }
        if (kind < 13) {
            return x.write(map, key, stamp);
        }
        if (kind < 17) {
            return x.spread(map, key, 1 + other, many, stamp);
        }
        if (kind < 21) {
            return x.erase(map, key);
        }
        if (kind < 24) {
            return x.cut(map, key, Math.min(4095, key + many));
        }
        switch (kind) {
            case 24: return x.keep();
            case 25: return x.back();
            case 26: return x.drop(map);
            case 27: return x.keys(map - 1);
            case 28: return x.read(map, key);
            case 29: return x.next(map, key);
            default: return x.check();
        }
    }
}
