/** Promise 8: done. */
public final class Promise08DoneTest {
    public static void main(String[] args) {
        Check check = new Check();
        itIsNotOpenAnyMore(check);
        staleFalseAndNothingElse(check);
        staleByTheNumberAgain(check);
        cellsHaveWhatItSaw(check);
        nothingWritten(check);
        everyCellWritten(check);
        everyCellRead(check);
        changedAlsoIfTheyHadTheNumber(check);
        changedOnceThoughWrittenInFiveParts(check);
        othersThatReadAreStale(check);
        itsOwnCellsDoNotMakeItStale(check);
        theLastOneDoneIsSeen(check);
        wrongInputs(check);
        check.end();
    }

    /** "It is not OPEN any more.", be it DONE or STALE. */
    private static void itIsNotOpenAnyMore(Check check) {
        CommitDesk done = new CommitDesk();
        done.begin(0);
        check.same("done", done.done(0), true);
        CommitDesk stale = stale();
        check.same("done of a stale one", stale.done(0), false);
        CommitDesk[] both = {done, stale};
        for (CommitDesk desk : both) {
            check.same("open", desk.all(0), 0);
            for (Call call : Call.OF_AN_OPEN_TRANSACTION) {
                check.refused(call.with(0) + " after done", IllegalStateException.class,
                        () -> call.body().accept(desk, 0));
            }
        }
    }

    private static CommitDesk stale() {
        CommitDesk desk = new CommitDesk();
        desk.begin(0);
        desk.read(0, 1);
        desk.write(0, 2, 22);
        desk.save(0);
        desk.write(0, 1, 11);
        desk.set(1, 5);
        return desk;
    }

    /** "If it is STALE: false, nothing else." */
    private static void staleFalseAndNothingElse(Check check) {
        CommitDesk desk = stale();
        desk.begin(3);
        desk.read(3, 1);
        desk.read(3, 2);
        check.same("done of a stale one", desk.done(0), false);
        check.same("cell(1)", desk.cell(1), 5);
        check.same("changed(1)", desk.changed(1), 1);
        check.same("cell(2)", desk.cell(2), 0);
        check.same("changed(2)", desk.changed(2), 0);
        check.same("another is stale", desk.count(3, 3), 0);
        check.same("open", desk.all(0), 1);
        check.same("done ones", desk.all(1), 0);
        check.same("stale ones", desk.all(2), 1);
        check.refused("done once more", IllegalStateException.class, () -> desk.done(0));
    }

    private static void staleByTheNumberAgain(Check check) {
        CommitDesk desk = new CommitDesk();
        desk.begin(0);
        desk.read(0, 1);
        desk.set(1, 5);
        desk.set(1, 0);
        check.same("done when the number is there again", desk.done(0), false);
        desk.begin(0);
        desk.read(0, 1);
        desk.set(1, 0);
        check.same("done when the number was set to what it was", desk.done(0), false);
    }

    /** "Else it is DONE, true: each CELL has what it SEES in it". */
    private static void cellsHaveWhatItSaw(Check check) {
        CommitDesk desk = new CommitDesk();
        desk.set(2, 20);
        desk.set(3, 30);
        desk.begin(0);
        desk.read(0, 3);
        desk.write(0, 0, 1);
        desk.write(0, 2, 20);
        desk.save(0);
        desk.write(0, 0, 2);
        desk.save(0);
        desk.write(0, 31, 5);
        desk.write(0, 31, Long.MIN_VALUE);
        check.same("done with three parts", desk.done(0), true);
        check.same("cell(0)", desk.cell(0), 2);
        check.same("changed(0)", desk.changed(0), 1);
        check.same("cell(2)", desk.cell(2), 20);
        check.same("changed(2), the same number", desk.changed(2), 2);
        check.same("cell(3)", desk.cell(3), 30);
        check.same("changed(3), only read", desk.changed(3), 1);
        check.same("cell(31)", desk.cell(31), Long.MIN_VALUE);
        check.same("changed(31)", desk.changed(31), 1);
        check.same("changed(4)", desk.changed(4), 0);
        check.same("open", desk.all(0), 0);
        check.same("done ones", desk.all(1), 1);
    }

    /** "(those that it has WRITTEN, and no others, are changed ...)": none, if it has WRITTEN none. */
    private static void nothingWritten(Check check) {
        CommitDesk desk = new CommitDesk();
        desk.begin(1);
        for (int k = 0; k < 32; k++) {
            desk.read(1, k);
        }
        desk.begin(0);
        check.same("done with nothing read or written", desk.done(0), true);
        desk.begin(0);
        desk.save(0);
        desk.write(0, 6, 1);
        desk.back(0);
        desk.save(0);
        check.same("done with all taken back", desk.done(0), true);
        check.same("done ones", desk.all(1), 2);
        check.same("stale: has read every cell", desk.count(1, 3), 0);
        for (int k = 0; k < 32; k++) {
            check.same("changed(" + k + ")", desk.changed(k), 0);
        }
    }

    private static void everyCellWritten(Check check) {
        CommitDesk desk = new CommitDesk();
        desk.begin(7);
        for (int k = 0; k < 32; k++) {
            desk.write(7, k, Long.MAX_VALUE - k);
        }
        check.same("done with every cell written", desk.done(7), true);
        for (int k = 0; k < 32; k++) {
            check.same("cell(" + k + ")", desk.cell(k), Long.MAX_VALUE - k);
            check.same("changed(" + k + ")", desk.changed(k), 1);
        }
    }

    private static void everyCellRead(Check check) {
        for (int changed = 0; changed < 32; changed++) {
            CommitDesk desk = new CommitDesk();
            desk.begin(7);
            for (int k = 0; k < 32; k++) {
                desk.read(7, k);
            }
            desk.write(7, 0, 1);
            desk.set(changed, 0);
            check.same("done with every cell read, and " + changed + " changed", desk.done(7), false);
            check.same("cell(0)", desk.cell(0), 0);
        }
    }

    /** "changed once each, also if they had the number". */
    private static void changedAlsoIfTheyHadTheNumber(Check check) {
        CommitDesk desk = new CommitDesk();
        desk.begin(0);
        desk.begin(1);
        for (int k = 0; k < 32; k++) {
            desk.write(0, k, 0);
        }
        desk.read(1, 17);
        check.same("done with the numbers that the cells had", desk.done(0), true);
        for (int k = 0; k < 32; k++) {
            check.same("cell(" + k + ")", desk.cell(k), 0);
            check.same("changed(" + k + ")", desk.changed(k), 1);
        }
        check.same("stale by the same number", desk.count(1, 3), 1);
    }

    private static void changedOnceThoughWrittenInFiveParts(Check check) {
        CommitDesk desk = new CommitDesk();
        desk.begin(0);
        for (int part = 1; part <= 5; part++) {
            desk.write(0, 3, part);
            desk.write(0, 3, 10 * part);
            desk.write(0, 10 + part, part);
            if (part < 5) {
                desk.save(0);
            }
        }
        check.same("done with five parts", desk.done(0), true);
        check.same("cell(3)", desk.cell(3), 50);
        check.same("changed(3)", desk.changed(3), 1);
        for (int part = 1; part <= 5; part++) {
            check.same("cell of part " + part, desk.cell(10 + part), part);
            check.same("changed of part " + part, desk.changed(10 + part), 1);
        }
    }

    private static void othersThatReadAreStale(Check check) {
        CommitDesk desk = new CommitDesk();
        for (int t = 0; t < 5; t++) {
            desk.begin(t);
        }
        desk.write(0, 5, 0);
        desk.read(1, 5);
        desk.read(2, 6);
        desk.write(3, 5, 8);
        check.same("done(0)", desk.done(0), true);
        check.same("stale: read it", desk.count(1, 3), 1);
        check.same("stale: read another cell", desk.count(2, 3), 0);
        check.same("stale: wrote it", desk.count(3, 3), 0);
        desk.read(4, 5);
        check.same("stale: read it afterwards", desk.count(4, 3), 0);
        check.same("done(3)", desk.done(3), true);
        check.same("cell(5)", desk.cell(5), 8);
        check.same("stale: it changed again", desk.count(4, 3), 1);
    }

    private static void itsOwnCellsDoNotMakeItStale(Check check) {
        CommitDesk desk = new CommitDesk();
        desk.begin(0);
        desk.read(0, 1);
        desk.read(0, 2);
        desk.write(0, 1, 11);
        desk.write(0, 2, 12);
        check.same("done of one that read what it wrote", desk.done(0), true);
        check.same("cell(1)", desk.cell(1), 11);
        check.same("cell(2)", desk.cell(2), 12);
        desk.begin(0);
        check.same("stale when begun again", desk.count(0, 3), 0);
        check.same("read when begun again", desk.read(0, 1), 11);
        check.same("done when begun again", desk.done(0), true);
        check.same("done ones", desk.all(1), 2);
    }

    private static void theLastOneDoneIsSeen(Check check) {
        CommitDesk desk = new CommitDesk();
        for (int t = 0; t < 8; t++) {
            desk.begin(t);
            desk.write(t, 5, t);
        }
        for (int t = 7; t >= 0; t--) {
            check.same("done(" + t + ")", desk.done(t), true);
            check.same("cell(5)", desk.cell(5), t);
            check.same("changed(5)", desk.changed(5), 8 - t);
        }
    }

    private static void wrongInputs(Check check) {
        for (int t : Edges.NO_TRANSACTION) {
            check.refusedWithoutTrace("done(" + t + ")", IllegalArgumentException.class,
                    Promise08DoneTest::stale, desk -> desk.done(t));
        }
        check.refusedWithoutTrace("done(1) not open", IllegalStateException.class,
                Promise08DoneTest::stale, desk -> desk.done(1));
    }
}
