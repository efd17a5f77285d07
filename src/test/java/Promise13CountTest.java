/** Promise 13: count. */
public final class Promise13CountTest {
    public static void main(String[] args) {
        Check check = new Check();
        nothingAtFirst(check);
        what0CountsReadCells(check);
        what1CountsWrittenCells(check);
        what1CountsNothingTakenBack(check);
        what2CountsParts(check);
        what3TellsWhetherItIsStale(check);
        askingEndsNothing(check);
        ofAnOpenOneAlone(check);
        wrongInputs(check);
        check.end();
    }

    private static void nothingAtFirst(Check check) {
        int[] due = {0, 0, 1, 0};
        for (int t = 0; t < 8; t++) {
            CommitDesk desk = new CommitDesk();
            desk.begin(t);
            for (int what = 0; what < 4; what++) {
                check.same("count(" + t + ", " + what + ") at first", desk.count(t, what), due[what]);
            }
        }
    }

    /** "what 0: CELLS that are READ": from none to every one, each once. */
    private static void what0CountsReadCells(Check check) {
        CommitDesk desk = new CommitDesk();
        desk.begin(7);
        for (int k = 0; k < 32; k++) {
            desk.read(7, k);
            desk.read(7, k);
            check.same("cells read", desk.count(7, 0), k + 1);
        }
        desk.write(7, 3, 1);
        check.same("cells read after one was written", desk.count(7, 0), 32);
        check.same("cells written", desk.count(7, 1), 1);
    }

    /** "1: those in which it has WRITTEN": from none to every one, each once. */
    private static void what1CountsWrittenCells(Check check) {
        CommitDesk desk = new CommitDesk();
        desk.begin(0);
        for (int k = 0; k < 32; k++) {
            desk.write(0, k, 0);
            desk.write(0, k, 1);
            check.same("cells written", desk.count(0, 1), k + 1);
        }
        for (int parts = 2; parts <= 5; parts++) {
            desk.save(0);
            desk.write(0, 31, 1);
            desk.write(0, 0, 1);
            check.same("cells written, two in " + parts + " parts", desk.count(0, 1), 32);
        }
        check.same("cells read", desk.count(0, 0), 0);
    }

    private static void what1CountsNothingTakenBack(Check check) {
        CommitDesk desk = new CommitDesk();
        desk.begin(0);
        desk.write(0, 1, 1);
        desk.save(0);
        desk.write(0, 1, 2);
        desk.write(0, 2, 2);
        check.same("cells written in both parts", desk.count(0, 1), 2);
        desk.back(0);
        check.same("cells written after back", desk.count(0, 1), 1);
    }

    /** "2: PARTS": from one to five. */
    private static void what2CountsParts(Check check) {
        CommitDesk desk = new CommitDesk();
        desk.begin(0);
        for (int parts = 1; parts < 5; parts++) {
            check.same("parts", desk.count(0, 2), parts);
            desk.save(0);
        }
        check.same("parts", desk.count(0, 2), 5);
        desk.keep(0);
        check.same("parts after keep", desk.count(0, 2), 4);
        desk.back(0);
        check.same("parts after back", desk.count(0, 2), 3);
    }

    /** "3: whether it is STALE (1, 0)". */
    private static void what3TellsWhetherItIsStale(Check check) {
        CommitDesk desk = new CommitDesk();
        desk.begin(0);
        desk.set(1, 1);
        check.same("stale by a change before it read", desk.count(0, 3), 0);
        desk.read(0, 1);
        check.same("stale when it has read", desk.count(0, 3), 0);
        desk.set(2, 1);
        check.same("stale by another cell", desk.count(0, 3), 0);
        desk.set(1, 2);
        desk.set(1, 1);
        check.same("stale by a cell that has its number again", desk.count(0, 3), 1);
        desk.set(1, 1);
        check.same("stale by three changes", desk.count(0, 3), 1);
    }

    private static void askingEndsNothing(Check check) {
        for (int what = 0; what < 4; what++) {
            int one = what;
            check.leavesNoTrace("count(2, " + what + ") of a stale one", Desks::busy, desk -> desk.count(2, one));
        }
        CommitDesk desk = Desks.busy();
        check.same("stale", desk.count(2, 3), 1);
        check.same("open when asked", desk.all(0), 5);
        check.same("stale ones when asked", desk.all(2), 1);
    }

    /** "Of an OPEN TRANSACTION". */
    private static void ofAnOpenOneAlone(Check check) {
        for (int t = 5; t < 8; t++) {
            int one = t;
            for (int what = 0; what < 4; what++) {
                int asked = what;
                check.refusedWithoutTrace("count(" + t + ", " + what + ") not open", IllegalStateException.class,
                        Desks::busy, desk -> desk.count(one, asked));
            }
        }
    }

    private static CommitDesk withOneOpen() {
        CommitDesk desk = new CommitDesk();
        desk.begin(0);
        desk.read(0, 1);
        desk.write(0, 2, 3);
        return desk;
    }

    /** "IllegalArgumentException for others, too." */
    private static void wrongInputs(Check check) {
        for (int what : Edges.NO_WHAT_OF_COUNT) {
            check.refusedWithoutTrace("count(0, " + what + ")", IllegalArgumentException.class,
                    Promise13CountTest::withOneOpen, desk -> desk.count(0, what));
            check.refusedWithoutTrace("count(1, " + what + ") not open", IllegalArgumentException.class,
                    Promise13CountTest::withOneOpen, desk -> desk.count(1, what));
            for (int t : Edges.NO_TRANSACTION) {
                check.refused("count(" + t + ", " + what + ")", IllegalArgumentException.class,
                        () -> withOneOpen().count(t, what));
            }
        }
        for (int what = 0; what < 4; what++) {
            int one = what;
            for (int t : Edges.NO_TRANSACTION) {
                check.refusedWithoutTrace("count(" + t + ", " + what + ")", IllegalArgumentException.class,
                        Promise13CountTest::withOneOpen, desk -> desk.count(t, one));
            }
            check.refusedWithoutTrace("count(1, " + what + ") not open", IllegalStateException.class,
                    Promise13CountTest::withOneOpen, desk -> desk.count(1, one));
        }
    }
}
