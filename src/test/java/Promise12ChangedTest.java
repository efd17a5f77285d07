/** Promise 12: changed. */
public final class Promise12ChangedTest {
    public static void main(String[] args) {
        Check check = new Check();
        countsSetsAndDones(check);
        countsNothingElse(check);
        countsManyChanges(check);
        wrongInputs(check);
        check.end();
    }

    private static void countsSetsAndDones(Check check) {
        CommitDesk desk = changedTwice();
        check.same("changed(31)", desk.changed(31), 2);
        check.same("changed(30)", desk.changed(30), 0);
        desk.begin(1);
        desk.write(1, 31, 2);
        desk.save(1);
        desk.write(1, 31, 3);
        desk.done(1);
        check.same("changed(31) after a done that wrote it twice", desk.changed(31), 3);
    }

    private static void countsNothingElse(Check check) {
        CommitDesk desk = changedTwice();
        desk.begin(1);
        desk.read(1, 31);
        desk.write(1, 31, 4);
        check.same("changed(31) after write", desk.changed(31), 2);
        desk.leave(1);
        check.same("changed(31) after leave", desk.changed(31), 2);
        desk.begin(1);
        desk.read(1, 0);
        desk.write(1, 31, 4);
        desk.set(0, 1);
        desk.done(1);
        check.same("changed(31) after a stale done", desk.changed(31), 2);
    }

    private static void countsManyChanges(Check check) {
        CommitDesk desk = new CommitDesk();
        for (int n = 0; n < 500; n++) {
            desk.set(0, n);
        }
        check.same("changed(0) after 500 sets", desk.changed(0), 500);
    }

    private static CommitDesk changedTwice() {
        CommitDesk desk = new CommitDesk();
        desk.set(31, 1);
        desk.set(31, 1);
        return desk;
    }

    private static void wrongInputs(Check check) {
        int[] none = {-1, 32, Integer.MIN_VALUE, Integer.MAX_VALUE};
        for (int k : none) {
            check.refusedWithoutTrace("changed(" + k + ")", IndexOutOfBoundsException.class,
                    Promise12ChangedTest::changedTwice, desk -> desk.changed(k));
        }
    }
}
