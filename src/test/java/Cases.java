import java.util.function.Consumer;
import java.util.function.Supplier;
import java.util.function.ToIntFunction;

/**
 * Boundary cases, each a test of its own that says which sentence of the document it tests. A case
 * is a call behind a run of calls on a new object, for several sizes of nodes. Besides the answer,
 * all that the maps have afterwards, now and as they were kept, must be what the model has.
 */
final class Cases {
    private static final int[] SIZES = {4, 5, 8, 31};
    private static final int MOST_TOLD = 20;

    private String sentence = "";
    private int testsOfSentence = 0;
    private int brokenOfSentence = 0;
    private int tests = 0;
    private int broken = 0;

    /** All tests up to the next sentence are for this one. */
    void sentence(String place, String words) {
        tellSentence();
        sentence = place + ", \"" + words + "\"";
    }

    private void tellSentence() {
        if (!sentence.isEmpty()) {
            System.out.println(sentence + ": " + testsOfSentence + " tests, " + brokenOfSentence + " broken");
        }
        testsOfSentence = 0;
        brokenOfSentence = 0;
    }

    void test(String name, Consumer<Face> before, ToIntFunction<Face> call, int due) {
        for (int m : SIZES) {
            String fault = faultOrThrown(() -> fault(m, before, call, due));
            if (!fault.isEmpty()) {
                ended(name, "nodes of " + m + " entries: " + fault);
                return;
            }
        }
        ended(name, "");
    }

    /** For what no call answers. */
    void holds(String name, Supplier<Boolean> what) {
        ended(name, faultOrThrown(() -> what.get() ? "" : "it is not so"));
    }

    private static String faultOrThrown(Supplier<String> test) {
        try {
            return test.get();
        } catch (RuntimeException thrown) {
            return "it threw " + thrown;
        }
    }

    private void ended(String name, String fault) {
        tests++;
        testsOfSentence++;
        if (!fault.isEmpty()) {
            broken++;
            brokenOfSentence++;
            if (brokenOfSentence <= MOST_TOLD) {
                System.out.println("BROKEN " + sentence + ": " + name + ": " + fault);
            }
        }
    }

    private static String fault(int m, Consumer<Face> before, ToIntFunction<Face> call, int due) {
        Model model = new Model();
        before.accept(model);
        Model untouched = new Model();
        before.accept(untouched);
        if (call.applyAsInt(model) != due) {
            return "the test's own model does not answer " + due;
        }
        boolean refused = due == Face.BAD || due == Face.NONE || due == Face.FULL;
        Model want = refused ? untouched : model;

        Counted x = new Counted(m);
        before.accept(x);
        int got = call.applyAsInt(x);
        if (got != due) {
            return "answered " + got + ", due is " + due;
        }
        int check = x.check();
        if (check != 0) {
            return "check() answers " + check + " afterwards, which breaks promise 13, too";
        }
        return faultAfter(want, () -> ran(m, before, call));
    }

    private static String faultAfter(Model want, Supplier<Counted> run) {
        String fault = new Look(run).difference(want.maps());
        if (!fault.isEmpty()) {
            return fault;
        }
        fault = new Look(() -> goneBack(run.get())).difference(want.keptMaps());
        return fault.isEmpty() ? "" : "as it was kept: " + fault;
    }

    private static Counted ran(int m, Consumer<Face> before, ToIntFunction<Face> call) {
        Counted x = new Counted(m);
        before.accept(x);
        call.applyAsInt(x);
        return x;
    }

    private static Counted goneBack(Counted x) {
        x.back();
        return x;
    }

    void end() {
        tellSentence();
        System.out.println(tests + " tests, " + broken + " broken");
        if (broken != 0 || tests == 0) {
            System.exit(1);
        }
    }
}
