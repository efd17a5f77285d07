/** Promise 7: keep. */
public final class Promise07KeepTest {
    public static void main(String[] args) {
        Check check = new Check();
        movesIntoThePartBefore(check);
        aKeptPartIsTakenBackWithTheOneBefore(check);
        anEmptyPartKeepsTheOneBefore(check);
        wrongInputs(check);
        check.end();
    }

    private static void movesIntoThePartBefore(Check check) {
        CommitDesk desk = withTwoParts();
        desk.keep(1);
        check.same("parts after keep", desk.count(1, 2), 1);
        check.same("cells written after keep", desk.count(1, 1), 3);
        check.same("read of a cell written in both", desk.read(1, 4), 41);
        check.same("read of a cell written in the first", desk.read(1, 6), 60);
        check.same("read of a cell written in the second", desk.read(1, 31), 310);
        check.same("cell(4)", desk.cell(4), 0);
        check.same("done", desk.done(1), true);
        check.same("cell(4) when done", desk.cell(4), 41);
        check.same("changed(4) when done", desk.changed(4), 1);
        check.same("cell(31) when done", desk.cell(31), 310);
    }

    private static void aKeptPartIsTakenBackWithTheOneBefore(Check check) {
        CommitDesk desk = new CommitDesk();
        desk.begin(0);
        desk.write(0, 1, 1);
        desk.save(0);
        desk.write(0, 1, 2);
        desk.save(0);
        desk.write(0, 1, 3);
        desk.write(0, 2, 4);
        desk.keep(0);
        check.same("parts after keep", desk.count(0, 2), 2);
        check.same("read after keep", desk.read(0, 1), 3);
        desk.back(0);
        check.same("read after back", desk.read(0, 1), 1);
        check.same("cells written after back", desk.count(0, 1), 1);
    }

    private static void anEmptyPartKeepsTheOneBefore(Check check) {
        CommitDesk desk = new CommitDesk();
        desk.begin(0);
        desk.write(0, 1, 1);
        desk.save(0);
        desk.write(0, 2, 2);
        desk.back(0);
        desk.save(0);
        desk.keep(0);
        check.same("read after keep", desk.read(0, 1), 1);
        check.same("cells written after keep", desk.count(0, 1), 1);
        desk.save(0);
        check.same("parts", desk.count(0, 2), 2);
    }

    private static CommitDesk withTwoParts() {
        CommitDesk desk = new CommitDesk();
        desk.begin(1);
        desk.begin(2);
        desk.write(1, 4, 40);
        desk.write(1, 6, 60);
        desk.write(2, 4, 44);
        desk.save(1);
        desk.write(1, 4, 41);
        desk.write(1, 31, 310);
        return desk;
    }

    private static void wrongInputs(Check check) {
        int[] none = {-1, 8, Integer.MIN_VALUE, Integer.MAX_VALUE};
        for (int t : none) {
            check.refusedWithoutTrace("keep(" + t + ")", IllegalArgumentException.class,
                    Promise07KeepTest::withTwoParts, desk -> desk.keep(t));
        }
        check.refusedWithoutTrace("keep(0) not open", IllegalStateException.class,
                Promise07KeepTest::withTwoParts, desk -> desk.keep(0));
        check.refusedWithoutTrace("keep(2) with one part", UnsupportedOperationException.class,
                Promise07KeepTest::withTwoParts, desk -> desk.keep(2));
    }
}
