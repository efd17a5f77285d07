/** Promise 6: back. */
public final class Promise06BackTest {
    public static void main(String[] args) {
        Check check = new Check();
        takesTheLastPartBack(check);
        whatWasReadStays(check);
        nothingTakenBackIsDone(check);
        wrongInputs(check);
        check.end();
    }

    private static void takesTheLastPartBack(Check check) {
        CommitDesk desk = new CommitDesk();
        desk.begin(1);
        for (int part = 1; part <= 5; part++) {
            desk.write(1, 0, part);
            desk.write(1, part, part);
            if (part < 5) {
                desk.save(1);
            }
        }
        for (int part = 4; part >= 1; part--) {
            desk.back(1);
            check.same("parts after back", desk.count(1, 2), part);
            check.same("read after back", desk.read(1, 0), part);
            check.same("cells written after back", desk.count(1, 1), part + 1);
        }
    }

    private static void whatWasReadStays(Check check) {
        CommitDesk desk = new CommitDesk();
        desk.begin(1);
        desk.save(1);
        desk.read(1, 9);
        desk.back(1);
        check.same("cells read after back", desk.count(1, 0), 1);
        desk.set(9, 1);
        check.same("stale after back", desk.count(1, 3), 1);
        desk.save(1);
        desk.back(1);
        check.same("stale still", desk.count(1, 3), 1);
        check.same("done", desk.done(1), false);
    }

    private static void nothingTakenBackIsDone(Check check) {
        CommitDesk desk = withTwoParts();
        desk.back(1);
        check.same("done", desk.done(1), true);
        check.same("cell(4)", desk.cell(4), 40);
        check.same("cell(5)", desk.cell(5), 0);
        check.same("changed(5)", desk.changed(5), 0);
    }

    private static CommitDesk withTwoParts() {
        CommitDesk desk = new CommitDesk();
        desk.begin(1);
        desk.begin(2);
        desk.write(1, 4, 40);
        desk.write(2, 4, 44);
        desk.save(1);
        desk.write(1, 4, 41);
        desk.write(1, 5, 50);
        return desk;
    }

    private static void wrongInputs(Check check) {
        int[] none = {-1, 8, Integer.MIN_VALUE, Integer.MAX_VALUE};
        for (int t : none) {
            check.refusedWithoutTrace("back(" + t + ")", IllegalArgumentException.class,
                    Promise06BackTest::withTwoParts, desk -> desk.back(t));
        }
        check.refusedWithoutTrace("back(0) not open", IllegalStateException.class,
                Promise06BackTest::withTwoParts, desk -> desk.back(0));
        check.refusedWithoutTrace("back(2) with one part", UnsupportedOperationException.class,
                Promise06BackTest::withTwoParts, desk -> desk.back(2));
    }
}
