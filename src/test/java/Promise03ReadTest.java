/** Promise 3: read. */
public final class Promise03ReadTest {
    public static void main(String[] args) {
        Check check = new Check();
        tellsWhatItSees(check);
        everyCellIsReadOnce(check);
        whereItHasWrittenTheCellIsNotRead(check);
        whatWasReadBeforeItWroteStaysRead(check);
        whereItHasWrittenStaleOrNot(check);
        whereItHasWrittenInAnEarlierPart(check);
        whereItsWritingIsTakenBack(check);
        staleItIsNotOpenAnyMore(check);
        staleByTheNumberAgain(check);
        staleByAnother(check);
        othersStayOpen(check);
        wrongInputs(check);
        check.end();
    }

    /** "What it SEES in a CELL". */
    private static void tellsWhatItSees(Check check) {
        for (long v : Edges.NUMBERS) {
            CommitDesk desk = new CommitDesk();
            desk.set(31, v);
            desk.begin(7);
            check.same("read of what the cell has", desk.read(7, 31), v);
            desk.write(7, 0, v);
            check.same("read of what it has written", desk.read(7, 0), v);
        }
    }

    /** "else the CELL is READ". */
    private static void everyCellIsReadOnce(Check check) {
        CommitDesk desk = new CommitDesk();
        desk.begin(7);
        for (int k = 31; k >= 0; k--) {
            desk.read(7, k);
            desk.read(7, k);
            check.same("cells read", desk.count(7, 0), 32 - k);
        }
        check.same("cells written", desk.count(7, 1), 0);
        desk.set(31, 5);
        check.same("stale by the cell read first", desk.count(7, 3), 1);
    }

    /** "and the CELL is not READ by that". */
    private static void whereItHasWrittenTheCellIsNotRead(Check check) {
        CommitDesk desk = new CommitDesk();
        desk.begin(0);
        for (int k = 0; k < 32; k++) {
            desk.write(0, k, 40 + k);
            check.same("read of its own writing", desk.read(0, k), 40 + k);
        }
        check.same("cells read by that", desk.count(0, 0), 0);
        for (int k = 0; k < 32; k++) {
            desk.set(k, 9);
            check.same("read of its own writing after set", desk.read(0, k), 40 + k);
        }
        check.same("stale by cells that it has only written", desk.count(0, 3), 0);
    }

    private static void whatWasReadBeforeItWroteStaysRead(Check check) {
        CommitDesk desk = new CommitDesk();
        desk.begin(0);
        desk.read(0, 4);
        desk.write(0, 4, 40);
        desk.read(0, 4);
        check.same("cells read", desk.count(0, 0), 1);
        desk.set(4, 0);
        check.same("stale", desk.count(0, 3), 1);
        check.same("read of its own writing when stale", desk.read(0, 4), 40);
    }

    private static CommitDesk stale() {
        CommitDesk desk = new CommitDesk();
        desk.begin(2);
        desk.read(2, 10);
        desk.write(2, 11, 110);
        desk.set(10, 1);
        return desk;
    }

    /** "(where it has WRITTEN, whether it is STALE or not ...)". */
    private static void whereItHasWrittenStaleOrNot(Check check) {
        CommitDesk desk = stale();
        check.same("stale read of its own writing", desk.read(2, 11), 110);
        check.same("open after it", desk.all(0), 1);
        check.same("stale ones after it", desk.all(2), 0);
        desk.write(2, 10, 3);
        check.same("stale read of the changed cell, written", desk.read(2, 10), 3);
        check.same("still stale", desk.count(2, 3), 1);
        check.same("cells read", desk.count(2, 0), 1);
        for (int k = 0; k < 32; k++) {
            desk.write(2, k, -k);
            check.same("stale read(2, " + k + "), written", desk.read(2, k), -k);
        }
        check.same("stale ones after all that", desk.all(2), 0);
    }

    private static void whereItHasWrittenInAnEarlierPart(Check check) {
        CommitDesk desk = stale();
        for (int part = 2; part <= 5; part++) {
            desk.save(2);
            check.same("stale read of the first part's writing", desk.read(2, 11), 110);
        }
        check.same("open after it", desk.all(0), 1);
    }

    /** "If it has WRITTEN nothing there": what is taken back is not WRITTEN. */
    private static void whereItsWritingIsTakenBack(Check check) {
        CommitDesk fresh = new CommitDesk();
        fresh.begin(0);
        fresh.save(0);
        fresh.write(0, 5, 50);
        fresh.read(0, 5);
        fresh.back(0);
        check.same("cells read before", fresh.count(0, 0), 0);
        check.same("read of a cell taken back", fresh.read(0, 5), 0);
        check.same("cells read", fresh.count(0, 0), 1);
        CommitDesk stale = stale();
        stale.save(2);
        stale.write(2, 12, 120);
        stale.back(2);
        check.refused("stale read of a cell taken back", UnsupportedOperationException.class,
                () -> stale.read(2, 12));
    }

    /** "UnsupportedOperationException if it is STALE (it is not OPEN any more then)". */
    private static void staleItIsNotOpenAnyMore(Check check) {
        for (int k = 0; k < 32; k++) {
            if (k == 11) {
                continue;
            }
            int cell = k;
            CommitDesk desk = stale();
            check.refused("stale read(2, " + k + ")", UnsupportedOperationException.class, () -> desk.read(2, cell));
            check.same("open after it", desk.all(0), 0);
            check.same("done after it", desk.all(1), 0);
            check.same("stale after it", desk.all(2), 1);
            check.same("its writing", desk.cell(11), 0);
            check.same("changed of its writing", desk.changed(11), 0);
            check.refused("read after it", IllegalStateException.class, () -> desk.read(2, cell));
            check.refused("read of its own writing after it", IllegalStateException.class, () -> desk.read(2, 11));
            check.refused("done after it", IllegalStateException.class, () -> desk.done(2));
            desk.begin(2);
            check.same("read when begun again", desk.read(2, 10), 1);
        }
    }

    private static void staleByTheNumberAgain(Check check) {
        CommitDesk desk = new CommitDesk();
        desk.begin(2);
        desk.read(2, 10);
        desk.set(10, 1);
        desk.set(10, 0);
        check.refused("read when the number is there again", UnsupportedOperationException.class,
                () -> desk.read(2, 10));
    }

    private static void staleByAnother(Check check) {
        CommitDesk desk = new CommitDesk();
        desk.begin(2);
        desk.begin(3);
        desk.read(2, 10);
        desk.write(3, 10, 0);
        check.same("read while the other is open", desk.read(2, 10), 0);
        desk.done(3);
        check.refused("read when the other is done", UnsupportedOperationException.class, () -> desk.read(2, 10));
    }

    private static void othersStayOpen(Check check) {
        CommitDesk desk = stale();
        desk.begin(1);
        desk.read(1, 20);
        desk.begin(3);
        desk.read(3, 10);
        check.refused("stale read", UnsupportedOperationException.class, () -> desk.read(2, 0));
        check.same("open after it", desk.all(0), 2);
        check.same("done(1)", desk.done(1), true);
        check.same("done(3), which read the cell after its change", desk.done(3), true);
    }

    private static void wrongInputs(Check check) {
        for (int t : Edges.NO_TRANSACTION) {
            check.refusedWithoutTrace("read(" + t + ", 0)", IllegalArgumentException.class,
                    Promise03ReadTest::stale, desk -> desk.read(t, 0));
            check.refusedWithoutTrace("read(" + t + ", 32)", IllegalArgumentException.class,
                    Promise03ReadTest::stale, desk -> desk.read(t, 32));
        }
        for (int k : Edges.NO_CELL) {
            check.refusedWithoutTrace("stale read(2, " + k + ")", IndexOutOfBoundsException.class,
                    Promise03ReadTest::stale, desk -> desk.read(2, k));
            check.refusedWithoutTrace("read(3, " + k + ") not open", IndexOutOfBoundsException.class,
                    Promise03ReadTest::stale, desk -> desk.read(3, k));
        }
        check.refusedWithoutTrace("read(3, 0) not open", IllegalStateException.class,
                Promise03ReadTest::stale, desk -> desk.read(3, 0));
    }
}
