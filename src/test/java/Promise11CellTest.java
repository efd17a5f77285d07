/** Promise 11: cell: "What a CELL has." */
public final class Promise11CellTest {
    public static void main(String[] args) {
        Check check = new Check();
        everyCellAndNumber(check);
        notWhatIsWrittenBeforeItIsDone(check);
        notWhatIsTakenBackOrLeft(check);
        isNoRead(check);
        wrongInputs(check);
        check.end();
    }

    private static void everyCellAndNumber(Check check) {
        for (long v : Edges.NUMBERS) {
            CommitDesk desk = new CommitDesk();
            for (int k = 0; k < 32; k++) {
                check.same("cell(" + k + ") before set", desk.cell(k), 0);
                desk.set(k, v + k);
                check.same("cell(" + k + ")", desk.cell(k), v + k);
            }
        }
    }

    private static void notWhatIsWrittenBeforeItIsDone(Check check) {
        CommitDesk desk = openWithWriting();
        check.same("cell(0)", desk.cell(0), Long.MIN_VALUE);
        check.same("cell(31), written but not done", desk.cell(31), Long.MAX_VALUE);
        desk.done(0);
        check.same("cell(31), done", desk.cell(31), -1);
        check.same("cell(0), done", desk.cell(0), Long.MIN_VALUE);
    }

    private static void notWhatIsTakenBackOrLeft(Check check) {
        CommitDesk left = openWithWriting();
        left.leave(0);
        check.same("cell(31), left", left.cell(31), Long.MAX_VALUE);
        CommitDesk stale = openWithWriting();
        stale.read(0, 5);
        stale.set(5, 0);
        stale.done(0);
        check.same("cell(31), stale", stale.cell(31), Long.MAX_VALUE);
        CommitDesk back = openWithWriting();
        back.save(0);
        back.write(0, 0, 7);
        back.back(0);
        back.done(0);
        check.same("cell(0), taken back", back.cell(0), Long.MIN_VALUE);
    }

    private static void isNoRead(Check check) {
        CommitDesk desk = openWithWriting();
        desk.cell(0);
        check.same("cells read", desk.count(0, 0), 0);
        desk.set(0, 1);
        check.same("stale", desk.count(0, 3), 0);
        check.same("changed(0)", desk.changed(0), 2);
    }

    private static CommitDesk openWithWriting() {
        CommitDesk desk = new CommitDesk();
        desk.set(0, Long.MIN_VALUE);
        desk.set(31, Long.MAX_VALUE);
        desk.begin(0);
        desk.write(0, 31, -1);
        return desk;
    }

    private static void wrongInputs(Check check) {
        for (int k : Edges.NO_CELL) {
            check.refusedWithoutTrace("cell(" + k + ")", IndexOutOfBoundsException.class,
                    Promise11CellTest::openWithWriting, desk -> desk.cell(k));
        }
    }
}
