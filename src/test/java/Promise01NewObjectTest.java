/** Promise 1: a new object is as said under "Terms". */
public final class Promise01NewObjectTest {
    public static void main(String[] args) {
        Check check = new Check();
        cellsHaveZeroAndWereNeverChanged(check);
        noneIsOpen(check);
        totalsAreZero(check);
        objectsShareNothing(check);
        check.end();
    }

    private static void cellsHaveZeroAndWereNeverChanged(Check check) {
        CommitDesk desk = new CommitDesk();
        for (int k = 0; k < 32; k++) {
            check.same("cell(" + k + ")", desk.cell(k), 0);
            check.same("changed(" + k + ")", desk.changed(k), 0);
        }
    }

    private static void noneIsOpen(Check check) {
        CommitDesk desk = new CommitDesk();
        for (int t = 0; t < 8; t++) {
            int one = t;
            check.refused("leave(" + t + ")", IllegalStateException.class, () -> desk.leave(one));
        }
    }

    private static void totalsAreZero(Check check) {
        CommitDesk desk = new CommitDesk();
        for (int what = 0; what < 3; what++) {
            check.same("all(" + what + ")", desk.all(what), 0);
        }
    }

    private static void objectsShareNothing(Check check) {
        String fresh = Probe.of(CommitDesk::new);
        CommitDesk early = new CommitDesk();
        CommitDesk busy = Desks.busy();
        check.same("an object made after another was used", Probe.of(CommitDesk::new), fresh);
        for (int k = 0; k < 32; k++) {
            check.same("cell(" + k + ") of one made before another was used", early.cell(k), 0);
            check.same("changed(" + k + ") of one made before another was used", early.changed(k), 0);
        }
        for (int what = 0; what < 3; what++) {
            check.same("all(" + what + ") of one made before another was used", early.all(what), 0);
        }
        early.set(9, 1);
        check.same("cell(9) of the other", busy.cell(9), 59);
    }
}
