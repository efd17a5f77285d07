import java.util.function.Supplier;

/** Long mixed runs of calls, each answer compared with the model's. */
public final class ModelTest {
    private static final int RUNS = 1000;
    private static final int CALLS = 512;

    private final Check check = new Check();
    private final int cells;
    private final int transactions;
    private CommitDesk desk = new CommitDesk();
    private Model model = new Model();
    private long seed;

    private ModelTest(int cells, int transactions, long seed) {
        this.cells = cells;
        this.transactions = transactions;
        this.seed = seed;
    }

    public static void main(String[] args) {
        new ModelTest(3, 2, 1).compareRuns();
        new ModelTest(8, 3, 2).compareRuns();
        new ModelTest(32, 8, 3).compareRuns();
    }

    private void compareRuns() {
        for (int run = 1; run <= RUNS; run++) {
            desk = new CommitDesk();
            model = new Model();
            for (int call = 1; call <= CALLS; call++) {
                compareCall("run " + run + ", call " + call + ": ");
            }
        }
        check.end();
    }

    private void compareCall(String where) {
        int t = oneOf(transactions, 8);
        int k = oneOf(cells, 32);
        // Few different numbers, so that cells often have a number again.
        long v = next(3) - 1;
        switch (next(24)) {
            case 0, 1, 2 -> compare(where + "begin " + t, () -> nothing(() -> desk.begin(t)), model.begin(t));
            case 3, 4, 5, 6 -> compare(where + "read " + t + " " + k, () -> "" + desk.read(t, k), model.read(t, k));
            case 7, 8, 9, 10 -> compare(where + "write " + t + " " + k + " " + v,
                    () -> nothing(() -> desk.write(t, k, v)), model.write(t, k, v));
            case 11, 12, 13 -> compare(where + "save " + t, () -> "" + desk.save(t), model.save(t));
            case 14 -> compare(where + "back " + t, () -> nothing(() -> desk.back(t)), model.endPart(t, false));
            case 15 -> compare(where + "keep " + t, () -> nothing(() -> desk.keep(t)), model.endPart(t, true));
            case 16 -> compare(where + "done " + t, () -> "" + desk.done(t), model.done(t));
            case 17 -> compareRarer(where, t, k, v);
            case 18, 19 -> compare(where + "cell " + k, () -> "" + desk.cell(k), model.cell(k));
            case 20 -> compare(where + "changed " + k, () -> "" + desk.changed(k), model.changed(k));
            case 21, 22 -> compareCount(where, t);
            default -> compareAll(where);
        }
    }

    private void compareRarer(String where, int t, int k, long v) {
        if (next(2) == 0) {
            compare(where + "leave " + t, () -> nothing(() -> desk.leave(t)), model.leave(t));
        } else {
            compare(where + "set " + k + " " + v, () -> nothing(() -> desk.set(k, v)), model.set(k, v));
        }
    }

    private void compareCount(String where, int t) {
        int what = oneOf(4, 4);
        compare(where + "count " + t + " " + what, () -> "" + desk.count(t, what), model.count(t, what));
    }

    private void compareAll(String where) {
        int what = oneOf(3, 3);
        compare(where + "all " + what, () -> "" + desk.all(what), model.all(what));
    }

    private void compare(String call, Supplier<String> got, String due) {
        check.same(call, answer(got), due);
    }

    private static String answer(Supplier<String> call) {
        try {
            return call.get();
        } catch (RuntimeException e) {
            return e.getClass().getSimpleName();
        }
    }

    private static String nothing(Runnable call) {
        call.run();
        return "void";
    }

    /** Mostly one of the first few, at times the last below the limit, or the next beyond the edges. */
    private int oneOf(int few, int limit) {
        switch (next(40)) {
            case 0:
                return -1;
            case 1:
                return limit;
            case 2:
                return limit - 1;
            default:
                return next(few);
        }
    }

    // A plain counting-on of the seed: every run of the test makes the same calls.
    private int next(int bound) {
        seed = seed * 6364136223846793005L + 1442695040888963407L;
        return (int) ((seed >>> 33) % bound);
    }
}
