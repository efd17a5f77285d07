/** Promise 9: leave. */
public final class Promise09LeaveTest {
    public static void main(String[] args) {
        Check check = new Check();
        nothingButNotOpen(check);
        staleOnesLeaveUncounted(check);
        wrongInputs(check);
        check.end();
    }

    private static void nothingButNotOpen(Check check) {
        CommitDesk desk = withTwoOpen();
        desk.leave(5);
        check.same("cell(2)", desk.cell(2), 0);
        check.same("changed(2)", desk.changed(2), 0);
        check.same("another is stale", desk.count(6, 3), 0);
        check.same("open", desk.all(0), 1);
        check.same("done ones", desk.all(1), 0);
        check.same("stale ones", desk.all(2), 0);
        check.refused("leave once more", IllegalStateException.class, () -> desk.leave(5));
        check.refused("write after leave", IllegalStateException.class, () -> desk.write(5, 2, 1));
    }

    private static void staleOnesLeaveUncounted(Check check) {
        CommitDesk desk = withTwoOpen();
        desk.set(2, 1);
        check.same("stale", desk.count(6, 3), 1);
        desk.leave(6);
        check.same("open", desk.all(0), 1);
        check.same("stale ones", desk.all(2), 0);
    }

    private static CommitDesk withTwoOpen() {
        CommitDesk desk = new CommitDesk();
        desk.begin(5);
        desk.begin(6);
        desk.write(5, 2, 20);
        desk.save(5);
        desk.read(6, 2);
        return desk;
    }

    private static void wrongInputs(Check check) {
        int[] none = {-1, 8, Integer.MIN_VALUE, Integer.MAX_VALUE};
        for (int t : none) {
            check.refusedWithoutTrace("leave(" + t + ")", IllegalArgumentException.class,
                    Promise09LeaveTest::withTwoOpen, desk -> desk.leave(t));
        }
        check.refusedWithoutTrace("leave(4) not open", IllegalStateException.class,
                Promise09LeaveTest::withTwoOpen, desk -> desk.leave(4));
    }
}
