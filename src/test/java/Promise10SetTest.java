/** Promise 10: set. */
public final class Promise10SetTest {
    public static void main(String[] args) {
        Check check = new Check();
        everyCellCanBeSet(check);
        everyNumberCanBeSet(check);
        changedAlsoIfItHadTheNumber(check);
        readersAreStaleAndWritersNot(check);
        allEightReadersAreStale(check);
        whatIsWrittenAndPartsStay(check);
        wrongInputs(check);
        check.end();
    }

    /** "A CELL has v". */
    private static void everyCellCanBeSet(Check check) {
        CommitDesk desk = new CommitDesk();
        for (int k = 0; k < 32; k++) {
            desk.set(k, Long.MAX_VALUE - k);
        }
        for (int k = 0; k < 32; k++) {
            check.same("cell(" + k + ")", desk.cell(k), Long.MAX_VALUE - k);
            check.same("changed(" + k + ")", desk.changed(k), 1);
        }
        desk.set(31, Long.MIN_VALUE);
        check.same("cell(31) set again", desk.cell(31), Long.MIN_VALUE);
        check.same("cell(30) beside it", desk.cell(30), Long.MAX_VALUE - 30);
    }

    private static void everyNumberCanBeSet(Check check) {
        CommitDesk desk = new CommitDesk();
        int changes = 0;
        for (long v : Edges.NUMBERS) {
            desk.set(31, v);
            changes++;
            check.same("cell(31)", desk.cell(31), v);
            check.same("changed(31)", desk.changed(31), changes);
        }
    }

    /** "(it is changed, also if it had v)". */
    private static void changedAlsoIfItHadTheNumber(Check check) {
        for (long v : Edges.NUMBERS) {
            CommitDesk desk = new CommitDesk();
            desk.set(7, v);
            desk.begin(0);
            desk.read(0, 7);
            desk.set(7, v);
            check.same("cell(7)", desk.cell(7), v);
            check.same("changed(7)", desk.changed(7), 2);
            check.same("stale", desk.count(0, 3), 1);
        }
        CommitDesk fresh = new CommitDesk();
        fresh.set(0, 0);
        check.same("changed(0), set to what it had at first", fresh.changed(0), 1);
    }

    private static void readersAreStaleAndWritersNot(Check check) {
        CommitDesk desk = withReaderAndWriter();
        desk.set(8, 5);
        check.same("stale: read it", desk.count(0, 3), 1);
        check.same("stale: wrote it", desk.count(1, 3), 0);
        check.same("what the writer sees", desk.read(1, 8), 80);
        check.same("done of the writer", desk.done(1), true);
        check.same("cell(8)", desk.cell(8), 80);
        check.same("changed(8)", desk.changed(8), 2);
    }

    private static void allEightReadersAreStale(Check check) {
        CommitDesk desk = new CommitDesk();
        for (int t = 0; t < 8; t++) {
            desk.begin(t);
            desk.read(t, 31);
        }
        desk.set(31, 0);
        for (int t = 0; t < 8; t++) {
            check.same("stale: " + t, desk.count(t, 3), 1);
        }
        check.same("open", desk.all(0), 8);
        check.same("stale ones that were to be done, or read", desk.all(2), 0);
    }

    private static void whatIsWrittenAndPartsStay(Check check) {
        CommitDesk desk = withReaderAndWriter();
        desk.save(1);
        desk.set(8, 5);
        check.same("cells written", desk.count(1, 1), 1);
        check.same("parts", desk.count(1, 2), 2);
        check.same("cells read", desk.count(0, 0), 1);
        check.same("done ones", desk.all(1), 0);
    }

    private static CommitDesk withReaderAndWriter() {
        CommitDesk desk = new CommitDesk();
        desk.begin(0);
        desk.begin(1);
        desk.read(0, 8);
        desk.write(1, 8, 80);
        return desk;
    }

    private static void wrongInputs(Check check) {
        for (int k : Edges.NO_CELL) {
            for (long v : Edges.NUMBERS) {
                check.refusedWithoutTrace("set(" + k + ", " + v + ")", IndexOutOfBoundsException.class,
                        Promise10SetTest::withReaderAndWriter, desk -> desk.set(k, v));
            }
        }
    }
}
