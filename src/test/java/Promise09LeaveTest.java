/** Promise 9: leave: "It is not OPEN any more, nothing else." */
public final class Promise09LeaveTest {
    public static void main(String[] args) {
        Check check = new Check();
        notOpenAnyMore(check);
        nothingElse(check);
        ofEachThatIsOpen(check);
        staleOnesLeaveUncounted(check);
        wrongInputs(check);
        check.end();
    }

    private static void notOpenAnyMore(Check check) {
        CommitDesk desk = withTwoOpen();
        desk.leave(5);
        check.same("open", desk.all(0), 1);
        for (Call call : Call.OF_AN_OPEN_TRANSACTION) {
            check.refused(call.with(5) + " after leave", IllegalStateException.class,
                    () -> call.body().accept(desk, 5));
        }
        desk.begin(5);
        check.same("open when begun again", desk.all(0), 2);
    }

    private static void nothingElse(Check check) {
        CommitDesk desk = withTwoOpen();
        desk.leave(5);
        check.same("cell(2)", desk.cell(2), 0);
        check.same("changed(2)", desk.changed(2), 0);
        check.same("another is stale", desk.count(6, 3), 0);
        check.same("done ones", desk.all(1), 0);
        check.same("stale ones", desk.all(2), 0);
    }

    /** One with nothing, with five parts, a stale one, one that has read every cell, one that has written it. */
    private static void ofEachThatIsOpen(Check check) {
        for (int t = 0; t < 5; t++) {
            CommitDesk desk = Desks.busy();
            desk.leave(t);
            check.same("open after leave(" + t + ")", desk.all(0), 4);
            check.same("done ones after leave(" + t + ")", desk.all(1), 1);
            check.same("stale ones after leave(" + t + ")", desk.all(2), 1);
            checkCells(check, desk, t);
            checkOthers(check, desk, t);
        }
    }

    private static void checkCells(Check check, CommitDesk desk, int left) {
        CommitDesk untouched = Desks.busy();
        for (int k = 0; k < 32; k++) {
            check.same("cell(" + k + ") after leave(" + left + ")", desk.cell(k), untouched.cell(k));
            check.same("changed(" + k + ") after leave(" + left + ")", desk.changed(k), untouched.changed(k));
        }
    }

    private static void checkOthers(Check check, CommitDesk desk, int left) {
        CommitDesk untouched = Desks.busy();
        for (int other = 0; other < 5; other++) {
            for (int what = 0; what < 4 && other != left; what++) {
                check.same("count(" + other + ", " + what + ") after leave(" + left + ")",
                        desk.count(other, what), untouched.count(other, what));
            }
        }
    }

    private static void staleOnesLeaveUncounted(Check check) {
        CommitDesk desk = withTwoOpen();
        desk.set(2, 1);
        check.same("stale", desk.count(6, 3), 1);
        desk.leave(6);
        check.same("open", desk.all(0), 1);
        check.same("stale ones", desk.all(2), 0);
    }

    private static CommitDesk withTwoOpen() {
        CommitDesk desk = new CommitDesk();
        desk.begin(5);
        desk.begin(6);
        desk.write(5, 2, 20);
        desk.save(5);
        desk.read(6, 2);
        return desk;
    }

    private static void wrongInputs(Check check) {
        for (int t : Edges.NO_TRANSACTION) {
            check.refusedWithoutTrace("leave(" + t + ")", IllegalArgumentException.class,
                    Promise09LeaveTest::withTwoOpen, desk -> desk.leave(t));
        }
        check.refusedWithoutTrace("leave(4) not open", IllegalStateException.class,
                Promise09LeaveTest::withTwoOpen, desk -> desk.leave(4));
    }
}
