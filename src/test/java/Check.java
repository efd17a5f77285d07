import java.util.function.Consumer;
import java.util.function.Supplier;

/** Collects the answers that are not as due; end() prints them and sets the exit code. */
final class Check {
    private int looked = 0;
    private int wrong = 0;

    void same(String what, long got, long due) {
        same(what, Long.toString(got), Long.toString(due));
    }

    void same(String what, boolean got, boolean due) {
        same(what, Boolean.toString(got), Boolean.toString(due));
    }

    void same(String what, String got, String due) {
        looked++;
        if (!got.equals(due)) {
            wrong++;
            System.out.println(what + " answered " + got + ", due is " + due);
        }
    }

    /** The call throws exactly this exception. */
    void refused(String what, Class<? extends RuntimeException> due, Runnable call) {
        same(what + " throws", thrownBy(call), due.getSimpleName());
    }

    /** As refused(), and the object is then as one on which the call was never made. */
    void refusedWithoutTrace(String what, Class<? extends RuntimeException> due,
            Supplier<CommitDesk> make, Consumer<CommitDesk> call) {
        CommitDesk desk = make.get();
        refused(what, due, () -> call.accept(desk));
        leavesNoTrace(what, make, call);
    }

    /** After the call the object is as one on which it was never made. */
    void leavesNoTrace(String what, Supplier<CommitDesk> make, Consumer<CommitDesk> call) {
        same("after " + what + " the object", Probe.of(() -> called(make, call)), Probe.of(make));
    }

    void end() {
        System.out.println(wrong == 0 ? looked + " answers are as due" : wrong + " answers are not as due");
        if (wrong != 0 || looked == 0) {
            System.exit(1);
        }
    }

    private static CommitDesk called(Supplier<CommitDesk> make, Consumer<CommitDesk> call) {
        CommitDesk desk = make.get();
        thrownBy(() -> call.accept(desk));
        return desk;
    }

    private static String thrownBy(Runnable call) {
        try {
            call.run();
            return "nothing";
        } catch (RuntimeException e) {
            return e.getClass().getSimpleName();
        }
    }
}
