/** Promise 10: set. */
public final class Promise10SetTest {
    public static void main(String[] args) {
        Check check = new Check();
        everyCellCanBeSet(check);
        theSameNumberIsAChangeToo(check);
        readersAreStaleAndWritersNot(check);
        wrongInputs(check);
        check.end();
    }

    private static void everyCellCanBeSet(Check check) {
        CommitDesk desk = new CommitDesk();
        for (int k = 0; k < 32; k++) {
            desk.set(k, Long.MAX_VALUE - k);
        }
        for (int k = 0; k < 32; k++) {
            check.same("cell(" + k + ")", desk.cell(k), Long.MAX_VALUE - k);
            check.same("changed(" + k + ")", desk.changed(k), 1);
        }
        desk.set(31, Long.MIN_VALUE);
        check.same("cell(31) set again", desk.cell(31), Long.MIN_VALUE);
        check.same("cell(30) beside it", desk.cell(30), Long.MAX_VALUE - 30);
    }

    private static void theSameNumberIsAChangeToo(Check check) {
        CommitDesk desk = new CommitDesk();
        desk.begin(0);
        desk.read(0, 7);
        desk.set(7, 0);
        check.same("changed(7)", desk.changed(7), 1);
        check.same("stale", desk.count(0, 3), 1);
    }

    private static void readersAreStaleAndWritersNot(Check check) {
        CommitDesk desk = withReaderAndWriter();
        desk.set(8, 5);
        check.same("stale: read it", desk.count(0, 3), 1);
        check.same("stale: wrote it", desk.count(1, 3), 0);
        check.same("what the writer sees", desk.read(1, 8), 80);
        check.same("done of the writer", desk.done(1), true);
        check.same("cell(8)", desk.cell(8), 80);
        check.same("changed(8)", desk.changed(8), 2);
    }

    private static CommitDesk withReaderAndWriter() {
        CommitDesk desk = new CommitDesk();
        desk.begin(0);
        desk.begin(1);
        desk.read(0, 8);
        desk.write(1, 8, 80);
        return desk;
    }

    private static void wrongInputs(Check check) {
        int[] none = {-1, 32, Integer.MIN_VALUE, Integer.MAX_VALUE};
        for (int k : none) {
            check.refusedWithoutTrace("set(" + k + ", 1)", IndexOutOfBoundsException.class,
                    Promise10SetTest::withReaderAndWriter, desk -> desk.set(k, 1));
        }
    }
}
