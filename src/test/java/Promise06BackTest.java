/** Promise 6: back. */
public final class Promise06BackTest {
    public static void main(String[] args) {
        Check check = new Check();
        theLastPartIsOver(check);
        anEmptyPart(check);
        aPartWithEveryCell(check);
        aPartWithTheSameNumbers(check);
        whatWasReadStays(check);
        staleOnesMayGoBack(check);
        nothingTakenBackIsDone(check);
        notBeyondOnePart(check);
        wrongInputs(check);
        check.end();
    }

    /** "The last PART is over, what was WRITTEN in it is not". */
    private static void theLastPartIsOver(Check check) {
        CommitDesk desk = new CommitDesk();
        desk.begin(1);
        for (int part = 1; part <= 5; part++) {
            desk.write(1, 0, part);
            desk.write(1, part, part);
            if (part < 5) {
                desk.save(1);
            }
        }
        for (int part = 4; part >= 1; part--) {
            desk.back(1);
            check.same("parts after back", desk.count(1, 2), part);
            check.same("read after back", desk.read(1, 0), part);
            check.same("cells written after back", desk.count(1, 1), part + 1);
        }
    }

    private static void anEmptyPart(Check check) {
        CommitDesk desk = withTwoParts();
        desk.save(1);
        desk.back(1);
        check.same("parts", desk.count(1, 2), 2);
        check.same("read(1, 4)", desk.read(1, 4), 41);
        check.same("read(1, 5)", desk.read(1, 5), 50);
        check.same("cells written", desk.count(1, 1), 2);
    }

    private static void aPartWithEveryCell(Check check) {
        CommitDesk desk = withTwoParts();
        desk.save(1);
        for (int k = 0; k < 32; k++) {
            desk.write(1, k, 700 + k);
        }
        desk.back(1);
        check.same("cells written", desk.count(1, 1), 2);
        for (int k = 0; k < 32; k++) {
            check.same("read(1, " + k + ")", desk.read(1, k), k == 4 ? 41 : k == 5 ? 50 : 0);
        }
    }

    private static void aPartWithTheSameNumbers(Check check) {
        CommitDesk desk = withTwoParts();
        desk.save(1);
        desk.write(1, 4, 41);
        desk.back(1);
        check.same("read of what is written in the second part too", desk.read(1, 4), 41);
        desk.back(1);
        check.same("read of what is written in the first part too", desk.read(1, 4), 40);
    }

    /** "(what was READ stays)". */
    private static void whatWasReadStays(Check check) {
        for (int k = 0; k < 32; k++) {
            CommitDesk desk = new CommitDesk();
            desk.begin(1);
            desk.save(1);
            desk.read(1, k);
            desk.write(1, k, 5);
            desk.back(1);
            check.same("cells read after back", desk.count(1, 0), 1);
            check.same("cells written after back", desk.count(1, 1), 0);
            desk.set(k, 1);
            check.same("stale by a cell read in the part taken back", desk.count(1, 3), 1);
            check.same("done", desk.done(1), false);
        }
    }

    private static void staleOnesMayGoBack(Check check) {
        CommitDesk desk = withTwoParts();
        desk.read(1, 9);
        desk.set(9, 1);
        desk.back(1);
        check.same("parts of a stale one after back", desk.count(1, 2), 1);
        check.same("stale still", desk.count(1, 3), 1);
        check.refused("back of a stale one with one part", UnsupportedOperationException.class, () -> desk.back(1));
        check.same("open", desk.all(0), 2);
        check.same("stale ones", desk.all(2), 0);
    }

    private static void nothingTakenBackIsDone(Check check) {
        CommitDesk desk = withTwoParts();
        desk.back(1);
        check.same("done", desk.done(1), true);
        check.same("cell(4)", desk.cell(4), 40);
        check.same("changed(4)", desk.changed(4), 1);
        check.same("cell(5)", desk.cell(5), 0);
        check.same("changed(5)", desk.changed(5), 0);
    }

    private static CommitDesk withTwoParts() {
        CommitDesk desk = new CommitDesk();
        desk.begin(1);
        desk.begin(2);
        desk.write(1, 4, 40);
        desk.write(2, 4, 44);
        desk.save(1);
        desk.write(1, 4, 41);
        desk.write(1, 5, 50);
        return desk;
    }

    /** "UnsupportedOperationException: there is one." */
    private static void notBeyondOnePart(Check check) {
        check.refusedWithoutTrace("back(2) with one part", UnsupportedOperationException.class,
                Promise06BackTest::withTwoParts, desk -> desk.back(2));
        CommitDesk desk = withTwoParts();
        desk.back(1);
        for (int n = 0; n < 10; n++) {
            check.refused("back(1) with one part left", UnsupportedOperationException.class, () -> desk.back(1));
        }
        check.same("parts", desk.count(1, 2), 1);
        check.same("read(1, 4)", desk.read(1, 4), 40);
        check.same("save", desk.save(1), 2);
    }

    private static void wrongInputs(Check check) {
        for (int t : Edges.NO_TRANSACTION) {
            check.refusedWithoutTrace("back(" + t + ")", IllegalArgumentException.class,
                    Promise06BackTest::withTwoParts, desk -> desk.back(t));
        }
        check.refusedWithoutTrace("back(0) not open", IllegalStateException.class,
                Promise06BackTest::withTwoParts, desk -> desk.back(0));
    }
}
