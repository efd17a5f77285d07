/** Terms: "TRANSACTIONS 0..7 are OPEN or not (at first none is)." */
public final class TermsTransactionsTest {
    public static void main(String[] args) {
        Check check = new Check();
        firstAndLastInEveryCall(check);
        noneBeyondInAnyCall(check);
        atFirstNoneIsOpen(check);
        allEightAtOnce(check);
        eachHasItsOwn(check);
        check.end();
    }

    private static void firstAndLastInEveryCall(Check check) {
        int[] edges = {0, 7};
        for (int t : edges) {
            CommitDesk desk = new CommitDesk();
            desk.begin(t);
            check.same("read", desk.read(t, 1), 0);
            desk.write(t, 2, 3);
            check.same("save", desk.save(t), 2);
            desk.write(t, 2, 4);
            desk.keep(t);
            check.same("save after keep", desk.save(t), 2);
            desk.back(t);
            check.same("count 0", desk.count(t, 0), 1);
            check.same("count 1", desk.count(t, 1), 1);
            check.same("count 2", desk.count(t, 2), 1);
            check.same("count 3", desk.count(t, 3), 0);
            check.same("done", desk.done(t), true);
            check.same("cell(2)", desk.cell(2), 4);
            desk.begin(t);
            desk.leave(t);
            check.same("open after leave", desk.all(0), 0);
        }
    }

    private static void noneBeyondInAnyCall(Check check) {
        for (int t : Edges.NO_TRANSACTION) {
            check.refusedWithoutTrace(Call.BEGIN.with(t), IllegalArgumentException.class,
                    Desks::busy, desk -> desk.begin(t));
            for (Call call : Call.OF_AN_OPEN_TRANSACTION) {
                check.refusedWithoutTrace(call.with(t), IllegalArgumentException.class,
                        Desks::busy, desk -> call.body().accept(desk, t));
            }
        }
    }

    private static void atFirstNoneIsOpen(Check check) {
        check.same("open at first", new CommitDesk().all(0), 0);
        for (int t = 0; t < 8; t++) {
            int one = t;
            for (Call call : Call.OF_AN_OPEN_TRANSACTION) {
                check.refusedWithoutTrace(call.with(t) + " at first", IllegalStateException.class,
                        CommitDesk::new, desk -> call.body().accept(desk, one));
            }
        }
    }

    private static void allEightAtOnce(Check check) {
        CommitDesk desk = new CommitDesk();
        for (int t = 0; t < 8; t++) {
            desk.begin(t);
        }
        check.same("open", desk.all(0), 8);
        for (int t = 0; t < 8; t++) {
            check.same("done(" + t + ")", desk.done(t), true);
        }
        check.same("open when all are done", desk.all(0), 0);
        check.same("done ones", desk.all(1), 8);
    }

    private static void eachHasItsOwn(Check check) {
        CommitDesk desk = new CommitDesk();
        for (int t = 0; t < 8; t++) {
            desk.begin(t);
            desk.write(t, 9, 90 + t);
            for (int n = 0; n < t % 5; n++) {
                desk.save(t);
            }
            for (int k = 10; k < 10 + t; k++) {
                desk.read(t, k);
            }
        }
        for (int t = 0; t < 8; t++) {
            check.same("written by " + t, desk.read(t, 9), 90 + t);
            check.same("cells read by " + t, desk.count(t, 0), t);
            check.same("parts of " + t, desk.count(t, 2), 1 + t % 5);
        }
    }
}
