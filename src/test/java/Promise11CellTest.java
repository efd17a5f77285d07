/** Promise 11: cell. */
public final class Promise11CellTest {
    public static void main(String[] args) {
        Check check = new Check();
        tellsWhatTheCellHas(check);
        isNoRead(check);
        wrongInputs(check);
        check.end();
    }

    private static void tellsWhatTheCellHas(Check check) {
        CommitDesk desk = openWithWriting();
        check.same("cell(0)", desk.cell(0), Long.MIN_VALUE);
        check.same("cell(31), written but not done", desk.cell(31), Long.MAX_VALUE);
        desk.done(0);
        check.same("cell(31), done", desk.cell(31), -1);
        check.same("cell(0), done", desk.cell(0), Long.MIN_VALUE);
    }

    private static void isNoRead(Check check) {
        CommitDesk desk = openWithWriting();
        desk.cell(0);
        check.same("cells read", desk.count(0, 0), 0);
        desk.set(0, 1);
        check.same("stale", desk.count(0, 3), 0);
        check.same("changed(0)", desk.changed(0), 2);
    }

    private static CommitDesk openWithWriting() {
        CommitDesk desk = new CommitDesk();
        desk.set(0, Long.MIN_VALUE);
        desk.set(31, Long.MAX_VALUE);
        desk.begin(0);
        desk.write(0, 31, -1);
        return desk;
    }

    private static void wrongInputs(Check check) {
        int[] none = {-1, 32, Integer.MIN_VALUE, Integer.MAX_VALUE};
        for (int k : none) {
            check.refusedWithoutTrace("cell(" + k + ")", IndexOutOfBoundsException.class,
                    Promise11CellTest::openWithWriting, desk -> desk.cell(k));
        }
    }
}
