/** Promise 7: keep. */
public final class Promise07KeepTest {
    public static void main(String[] args) {
        Check check = new Check();
        movesIntoThePartBefore(check);
        aKeptPartIsTakenBackWithTheOneBefore(check);
        anEmptyPartKeepsTheOneBefore(check);
        aFullPartIntoAnEmptyOne(check);
        aFullPartIntoAFullOne(check);
        fivePartsIntoOne(check);
        whatWasReadStays(check);
        staleOnesMayKeep(check);
        notBeyondOnePart(check);
        wrongInputs(check);
        check.end();
    }

    /** "The last PART is over, what was WRITTEN in it is in the one before." */
    private static void movesIntoThePartBefore(Check check) {
        CommitDesk desk = withTwoParts();
        desk.keep(1);
        check.same("parts after keep", desk.count(1, 2), 1);
        check.same("cells written after keep", desk.count(1, 1), 3);
        check.same("read of a cell written in both", desk.read(1, 4), 41);
        check.same("read of a cell written in the first", desk.read(1, 6), 60);
        check.same("read of a cell written in the second", desk.read(1, 31), 310);
        check.same("cell(4)", desk.cell(4), 0);
        check.same("done", desk.done(1), true);
        check.same("cell(4) when done", desk.cell(4), 41);
        check.same("changed(4) when done", desk.changed(4), 1);
        check.same("cell(31) when done", desk.cell(31), 310);
    }

    private static void aKeptPartIsTakenBackWithTheOneBefore(Check check) {
        CommitDesk desk = new CommitDesk();
        desk.begin(0);
        desk.write(0, 1, 1);
        desk.save(0);
        desk.write(0, 1, 2);
        desk.save(0);
        desk.write(0, 1, 3);
        desk.write(0, 2, 4);
        desk.keep(0);
        check.same("parts after keep", desk.count(0, 2), 2);
        check.same("read after keep", desk.read(0, 1), 3);
        desk.back(0);
        check.same("read after back", desk.read(0, 1), 1);
        check.same("cells written after back", desk.count(0, 1), 1);
    }

    private static void anEmptyPartKeepsTheOneBefore(Check check) {
        CommitDesk desk = new CommitDesk();
        desk.begin(0);
        desk.write(0, 1, 1);
        desk.save(0);
        desk.write(0, 2, 2);
        desk.back(0);
        desk.save(0);
        desk.keep(0);
        check.same("read after keep", desk.read(0, 1), 1);
        check.same("cells written after keep", desk.count(0, 1), 1);
        desk.save(0);
        check.same("parts", desk.count(0, 2), 2);
    }

    private static void writeEveryCell(CommitDesk desk, int base) {
        for (int k = 0; k < 32; k++) {
            desk.write(0, k, base + k);
        }
    }

    private static void aFullPartIntoAnEmptyOne(Check check) {
        CommitDesk desk = new CommitDesk();
        desk.begin(0);
        desk.save(0);
        desk.save(0);
        writeEveryCell(desk, 500);
        desk.keep(0);
        check.same("cells written after keep", desk.count(0, 1), 32);
        for (int k = 0; k < 32; k++) {
            check.same("read(0, " + k + ")", desk.read(0, k), 500 + k);
        }
        desk.back(0);
        check.same("cells written after back", desk.count(0, 1), 0);
    }

    private static void aFullPartIntoAFullOne(Check check) {
        CommitDesk desk = new CommitDesk();
        desk.begin(0);
        writeEveryCell(desk, 500);
        desk.save(0);
        writeEveryCell(desk, -500);
        desk.keep(0);
        check.same("cells written after keep", desk.count(0, 1), 32);
        check.same("parts after keep", desk.count(0, 2), 1);
        for (int k = 0; k < 32; k++) {
            check.same("read(0, " + k + ")", desk.read(0, k), -500 + k);
        }
    }

    private static void fivePartsIntoOne(Check check) {
        CommitDesk desk = new CommitDesk();
        desk.begin(0);
        for (int part = 1; part <= 5; part++) {
            desk.write(0, 0, part);
            desk.write(0, part, 10 * part);
            if (part < 5) {
                desk.save(0);
            }
        }
        for (int part = 4; part >= 1; part--) {
            desk.keep(0);
            check.same("parts after keep", desk.count(0, 2), part);
            check.same("cells written after keep", desk.count(0, 1), 6);
            check.same("read after keep", desk.read(0, 0), 5);
        }
        check.refused("keep with one left", UnsupportedOperationException.class, () -> desk.keep(0));
        desk.done(0);
        for (int part = 1; part <= 5; part++) {
            check.same("cell(" + part + ")", desk.cell(part), 10 * part);
            check.same("changed(" + part + ")", desk.changed(part), 1);
        }
        check.same("cell(0)", desk.cell(0), 5);
        check.same("changed(0)", desk.changed(0), 1);
    }

    private static void whatWasReadStays(Check check) {
        CommitDesk desk = withTwoParts();
        desk.read(1, 9);
        desk.keep(1);
        check.same("cells read after keep", desk.count(1, 0), 1);
        desk.read(1, 31);
        check.same("cells read by a read of what is kept", desk.count(1, 0), 1);
        desk.set(9, 0);
        check.same("stale by a cell read in the part kept", desk.count(1, 3), 1);
    }

    private static void staleOnesMayKeep(Check check) {
        CommitDesk desk = withTwoParts();
        desk.read(1, 9);
        desk.set(9, 1);
        desk.keep(1);
        check.same("read of what a stale one kept", desk.read(1, 31), 310);
        check.same("stale still", desk.count(1, 3), 1);
        check.refused("keep of a stale one with one part", UnsupportedOperationException.class, () -> desk.keep(1));
        check.same("open", desk.all(0), 2);
        check.same("stale ones", desk.all(2), 0);
    }

    private static CommitDesk withTwoParts() {
        CommitDesk desk = new CommitDesk();
        desk.begin(1);
        desk.begin(2);
        desk.write(1, 4, 40);
        desk.write(1, 6, 60);
        desk.write(2, 4, 44);
        desk.save(1);
        desk.write(1, 4, 41);
        desk.write(1, 31, 310);
        return desk;
    }

    /** "Likewise." (UnsupportedOperationException: there is one.) */
    private static void notBeyondOnePart(Check check) {
        check.refusedWithoutTrace("keep(2) with one part", UnsupportedOperationException.class,
                Promise07KeepTest::withTwoParts, desk -> desk.keep(2));
        CommitDesk desk = withTwoParts();
        desk.keep(1);
        for (int n = 0; n < 10; n++) {
            check.refused("keep(1) with one part left", UnsupportedOperationException.class, () -> desk.keep(1));
        }
        check.same("parts", desk.count(1, 2), 1);
        check.same("save", desk.save(1), 2);
    }

    private static void wrongInputs(Check check) {
        for (int t : Edges.NO_TRANSACTION) {
            check.refusedWithoutTrace("keep(" + t + ")", IllegalArgumentException.class,
                    Promise07KeepTest::withTwoParts, desk -> desk.keep(t));
        }
        check.refusedWithoutTrace("keep(0) not open", IllegalStateException.class,
                Promise07KeepTest::withTwoParts, desk -> desk.keep(0));
    }
}
