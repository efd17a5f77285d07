import java.util.function.Consumer;

/** Terms: "A call that throws changes nothing, but as said (read)." */
public final class TermsThrowingTest {
    private static final int STALE = 2;

    public static void main(String[] args) {
        Check check = new Check();
        callsOfOnesThatAreNotOpen(check);
        beginOfOnesThatAreOpen(check);
        partsThatCannotBe(check);
        whatsThatAreNot(check);
        refusedOverAndOver(check);
        readOfAStaleOneEndsItAlone(check);
        callsThatAnswerAlone(check);
        check.end();
    }

    private static void callsOfOnesThatAreNotOpen(Check check) {
        for (int t = 5; t < 8; t++) {
            int one = t;
            for (Call call : Call.OF_AN_OPEN_TRANSACTION) {
                check.refusedWithoutTrace(call.with(t) + ", not open", IllegalStateException.class,
                        Desks::busy, desk -> call.body().accept(desk, one));
            }
        }
    }

    private static void beginOfOnesThatAreOpen(Check check) {
        for (int t = 0; t < 5; t++) {
            int one = t;
            check.refusedWithoutTrace("begin(" + t + "), open", IllegalStateException.class,
                    Desks::busy, desk -> desk.begin(one));
        }
    }

    private static void partsThatCannotBe(Check check) {
        check.refusedWithoutTrace("save with five parts", UnsupportedOperationException.class,
                Desks::busy, desk -> desk.save(1));
        int[] withOnePart = {0, 3, 4};
        for (int t : withOnePart) {
            check.refusedWithoutTrace("back(" + t + ") with one part", UnsupportedOperationException.class,
                    Desks::busy, desk -> desk.back(t));
            check.refusedWithoutTrace("keep(" + t + ") with one part", UnsupportedOperationException.class,
                    Desks::busy, desk -> desk.keep(t));
        }
    }

    private static void whatsThatAreNot(Check check) {
        for (int what : Edges.NO_WHAT_OF_COUNT) {
            check.refusedWithoutTrace("count(1, " + what + ")", IllegalArgumentException.class,
                    Desks::busy, desk -> desk.count(1, what));
        }
        for (int what : Edges.NO_WHAT_OF_ALL) {
            check.refusedWithoutTrace("all(" + what + ")", IllegalArgumentException.class,
                    Desks::busy, desk -> desk.all(what));
        }
    }

    private static void refusedOverAndOver(Check check) {
        check.leavesNoTrace("many refused calls", Desks::busy, TermsThrowingTest::manyRefusedCalls);
    }

    private static void manyRefusedCalls(CommitDesk desk) {
        for (int n = 0; n < 20; n++) {
            swallow(desk, one -> one.begin(1));
            swallow(desk, one -> one.save(1));
            swallow(desk, one -> one.back(0));
            swallow(desk, one -> one.keep(0));
            swallow(desk, one -> one.done(7));
            swallow(desk, one -> one.set(32, 1));
            swallow(desk, one -> one.write(1, -1, 1));
            swallow(desk, one -> one.read(8, 0));
        }
    }

    private static void swallow(CommitDesk desk, Consumer<CommitDesk> call) {
        try {
            call.accept(desk);
        } catch (RuntimeException e) {
            // Which one it is, other tests ask.
        }
    }

    // A stale one that was to be done is closed and counted too, and nothing else: so both leave the same behind.
    private static void readOfAStaleOneEndsItAlone(Check check) {
        for (int k = 0; k < 32; k++) {
            if (k == 3 || k == 4) {
                continue;
            }
            int cell = k;
            check.refused("read(2, " + k + "), stale", UnsupportedOperationException.class,
                    () -> Desks.busy().read(STALE, cell));
            check.same("after read(2, " + k + "), stale, the object",
                    Probe.of(() -> after(desk -> desk.read(STALE, cell))),
                    Probe.of(() -> after(desk -> desk.done(STALE))));
        }
        CommitDesk desk = after(one -> one.read(STALE, 5));
        check.same("open after it", desk.all(0), 4);
        check.same("done ones after it", desk.all(1), 1);
        check.same("stale ones after it", desk.all(2), 2);
        check.refused("count after it", IllegalStateException.class, () -> desk.count(STALE, 2));
    }

    private static CommitDesk after(Consumer<CommitDesk> call) {
        CommitDesk desk = Desks.busy();
        swallow(desk, call);
        return desk;
    }

    private static void callsThatAnswerAlone(Check check) {
        for (int k = 0; k < 32; k++) {
            int cell = k;
            check.leavesNoTrace("cell(" + k + ")", Desks::busy, desk -> desk.cell(cell));
            check.leavesNoTrace("changed(" + k + ")", Desks::busy, desk -> desk.changed(cell));
            check.leavesNoTrace("read(4, " + k + ") of its own writing", Desks::busy, desk -> desk.read(4, cell));
        }
        check.leavesNoTrace("stale read(2, 3) of its own writing", Desks::busy, desk -> desk.read(STALE, 3));
        check.leavesNoTrace("stale read(2, 4) of its own writing", Desks::busy, desk -> desk.read(STALE, 4));
        for (int what = 0; what < 4; what++) {
            int one = what;
            check.leavesNoTrace("count(2, " + what + ")", Desks::busy, desk -> desk.count(STALE, one));
        }
        for (int what = 0; what < 3; what++) {
            int one = what;
            check.leavesNoTrace("all(" + what + ")", Desks::busy, desk -> desk.all(one));
        }
    }
}
