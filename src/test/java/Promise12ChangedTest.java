/** Promise 12: changed: "How often a CELL was changed." */
public final class Promise12ChangedTest {
    public static void main(String[] args) {
        Check check = new Check();
        neverAtFirst(check);
        countsSetsAndDones(check);
        countsTheSameNumberToo(check);
        countsNothingElse(check);
        countsEachCellByItself(check);
        countsManyChanges(check);
        wrongInputs(check);
        check.end();
    }

    private static void neverAtFirst(Check check) {
        CommitDesk desk = new CommitDesk();
        for (int k = 0; k < 32; k++) {
            check.same("changed(" + k + ") at first", desk.changed(k), 0);
        }
    }

    private static void countsSetsAndDones(Check check) {
        CommitDesk desk = changedTwice();
        check.same("changed(31)", desk.changed(31), 2);
        check.same("changed(30)", desk.changed(30), 0);
        desk.begin(1);
        desk.write(1, 31, 2);
        desk.save(1);
        desk.write(1, 31, 3);
        desk.done(1);
        check.same("changed(31) after a done that wrote it twice", desk.changed(31), 3);
    }

    private static void countsTheSameNumberToo(Check check) {
        CommitDesk desk = new CommitDesk();
        desk.set(0, 0);
        check.same("changed(0) by a set to what it had", desk.changed(0), 1);
        desk.begin(1);
        desk.write(1, 0, 0);
        desk.done(1);
        check.same("changed(0) by a done with what it had", desk.changed(0), 2);
    }

    private static void countsNothingElse(Check check) {
        CommitDesk desk = changedTwice();
        desk.begin(1);
        desk.read(1, 31);
        desk.write(1, 31, 4);
        check.same("changed(31) after write", desk.changed(31), 2);
        desk.leave(1);
        check.same("changed(31) after leave", desk.changed(31), 2);
        desk.begin(1);
        desk.read(1, 0);
        desk.write(1, 31, 4);
        desk.set(0, 1);
        desk.done(1);
        check.same("changed(31) after a stale done", desk.changed(31), 2);
        desk.begin(1);
        desk.read(1, 31);
        desk.save(1);
        desk.write(1, 31, 4);
        desk.back(1);
        desk.done(1);
        check.same("changed(31) after a done that took it back", desk.changed(31), 2);
    }

    private static void countsEachCellByItself(Check check) {
        CommitDesk desk = new CommitDesk();
        for (int k = 0; k < 32; k++) {
            for (int n = 0; n < k % 10; n++) {
                desk.set(k, n);
            }
        }
        for (int k = 0; k < 32; k++) {
            check.same("changed(" + k + ")", desk.changed(k), k % 10);
        }
    }

    private static void countsManyChanges(Check check) {
        CommitDesk desk = new CommitDesk();
        for (int n = 1; n <= 511; n++) {
            desk.set(0, n);
        }
        check.same("changed(0) after 511 sets", desk.changed(0), 511);
    }

    private static CommitDesk changedTwice() {
        CommitDesk desk = new CommitDesk();
        desk.set(31, 1);
        desk.set(31, 1);
        return desk;
    }

    private static void wrongInputs(Check check) {
        for (int k : Edges.NO_CELL) {
            check.refusedWithoutTrace("changed(" + k + ")", IndexOutOfBoundsException.class,
                    Promise12ChangedTest::changedTwice, desk -> desk.changed(k));
        }
    }
}
