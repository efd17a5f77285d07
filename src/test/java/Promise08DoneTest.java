/** Promise 8: done. */
public final class Promise08DoneTest {
    public static void main(String[] args) {
        Check check = new Check();
        cellsHaveWhatItSaw(check);
        othersThatReadAreStale(check);
        staleOnesChangeNothing(check);
        itsOwnCellsDoNotMakeItStale(check);
        wrongInputs(check);
        check.end();
    }

    private static void cellsHaveWhatItSaw(Check check) {
        CommitDesk desk = new CommitDesk();
        desk.set(2, 20);
        desk.set(3, 30);
        desk.begin(0);
        desk.read(0, 3);
        desk.write(0, 0, 1);
        desk.write(0, 2, 20);
        desk.save(0);
        desk.write(0, 0, 2);
        desk.save(0);
        desk.write(0, 31, 5);
        desk.write(0, 31, Long.MIN_VALUE);
        check.same("done with three parts", desk.done(0), true);
        check.same("cell(0)", desk.cell(0), 2);
        check.same("changed(0)", desk.changed(0), 1);
        check.same("cell(2)", desk.cell(2), 20);
        check.same("changed(2), the same number", desk.changed(2), 2);
        check.same("cell(3)", desk.cell(3), 30);
        check.same("changed(3), only read", desk.changed(3), 1);
        check.same("cell(31)", desk.cell(31), Long.MIN_VALUE);
        check.same("changed(31)", desk.changed(31), 1);
        check.same("changed(4)", desk.changed(4), 0);
        check.same("open", desk.all(0), 0);
        check.same("done ones", desk.all(1), 1);
    }

    private static void othersThatReadAreStale(Check check) {
        CommitDesk desk = new CommitDesk();
        for (int t = 0; t < 5; t++) {
            desk.begin(t);
        }
        desk.write(0, 5, 0);
        desk.read(1, 5);
        desk.read(2, 6);
        desk.write(3, 5, 8);
        check.same("done(0)", desk.done(0), true);
        check.same("stale: read it", desk.count(1, 3), 1);
        check.same("stale: read another cell", desk.count(2, 3), 0);
        check.same("stale: wrote it", desk.count(3, 3), 0);
        desk.read(4, 5);
        check.same("stale: read it afterwards", desk.count(4, 3), 0);
        check.same("done(3)", desk.done(3), true);
        check.same("cell(5)", desk.cell(5), 8);
        check.same("stale: it changed again", desk.count(4, 3), 1);
    }

    private static CommitDesk stale() {
        CommitDesk desk = new CommitDesk();
        desk.begin(0);
        desk.read(0, 1);
        desk.write(0, 2, 22);
        desk.set(1, 0);
        return desk;
    }

    private static void staleOnesChangeNothing(Check check) {
        CommitDesk desk = stale();
        desk.begin(3);
        desk.read(3, 2);
        check.same("done of a stale one", desk.done(0), false);
        check.same("cell(2)", desk.cell(2), 0);
        check.same("changed(2)", desk.changed(2), 0);
        check.same("another is stale", desk.count(3, 3), 0);
        check.same("open", desk.all(0), 1);
        check.same("done ones", desk.all(1), 0);
        check.same("stale ones", desk.all(2), 1);
        check.refused("done once more", IllegalStateException.class, () -> desk.done(0));
    }

    private static void itsOwnCellsDoNotMakeItStale(Check check) {
        CommitDesk desk = new CommitDesk();
        desk.begin(0);
        desk.read(0, 1);
        desk.read(0, 2);
        desk.write(0, 1, 11);
        desk.write(0, 2, 12);
        check.same("done of one that read what it wrote", desk.done(0), true);
        check.same("cell(2)", desk.cell(2), 12);
        desk.begin(0);
        check.same("stale when begun again", desk.count(0, 3), 0);
        check.same("read when begun again", desk.read(0, 1), 11);
        check.same("done when begun again", desk.done(0), true);
        check.same("done ones", desk.all(1), 2);
    }

    private static void wrongInputs(Check check) {
        int[] none = {-1, 8, Integer.MIN_VALUE, Integer.MAX_VALUE};
        for (int t : none) {
            check.refusedWithoutTrace("done(" + t + ")", IllegalArgumentException.class,
                    Promise08DoneTest::stale, desk -> desk.done(t));
        }
        check.refusedWithoutTrace("done(1) not open", IllegalStateException.class,
                Promise08DoneTest::stale, desk -> desk.done(1));
    }
}
