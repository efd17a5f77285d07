/** Promise 3: read. */
public final class Promise03ReadTest {
    public static void main(String[] args) {
        Check check = new Check();
        readsCells(check);
        readsWhatItWrote(check);
        staleReadEndsIt(check);
        staleReadOfOwnWriting(check);
        sameNumberAgainIsStaleToo(check);
        wrongInputs(check);
        check.end();
    }

    private static void readsCells(Check check) {
        CommitDesk desk = new CommitDesk();
        desk.set(0, Long.MIN_VALUE);
        desk.set(31, Long.MAX_VALUE);
        desk.begin(7);
        check.same("read(7, 0)", desk.read(7, 0), Long.MIN_VALUE);
        check.same("read(7, 31)", desk.read(7, 31), Long.MAX_VALUE);
        check.same("read(7, 31) again", desk.read(7, 31), Long.MAX_VALUE);
        check.same("cells read", desk.count(7, 0), 2);
        desk.set(0, 5);
        check.same("stale", desk.count(7, 3), 1);
    }

    private static void readsWhatItWrote(Check check) {
        CommitDesk desk = new CommitDesk();
        desk.begin(0);
        desk.begin(1);
        desk.write(0, 4, 40);
        check.same("read of its own writing", desk.read(0, 4), 40);
        check.same("cells read by that", desk.count(0, 0), 0);
        check.same("read of another's writing", desk.read(1, 4), 0);
        desk.set(4, 9);
        check.same("stale by a cell that it wrote alone", desk.count(0, 3), 0);
        check.same("read of its own writing after set", desk.read(0, 4), 40);
        desk.save(0);
        desk.write(0, 5, 50);
        desk.read(0, 5);
        desk.back(0);
        check.same("read of a cell taken back", desk.read(0, 5), 0);
        check.same("cells read after back", desk.count(0, 0), 1);
    }

    private static CommitDesk stale() {
        CommitDesk desk = new CommitDesk();
        desk.begin(2);
        desk.read(2, 10);
        desk.write(2, 11, 110);
        desk.set(10, 1);
        return desk;
    }

    private static void staleReadEndsIt(Check check) {
        int[] unwritten = {10, 12};
        for (int k : unwritten) {
            CommitDesk desk = stale();
            check.refused("stale read(2, " + k + ")", UnsupportedOperationException.class, () -> desk.read(2, k));
            check.same("open after it", desk.all(0), 0);
            check.same("done after it", desk.all(1), 0);
            check.same("stale after it", desk.all(2), 1);
            check.same("its writing", desk.cell(11), 0);
            check.same("changed of its writing", desk.changed(11), 0);
            check.refused("read after it", IllegalStateException.class, () -> desk.read(2, 11));
            desk.begin(2);
            check.same("read when begun again", desk.read(2, 10), 1);
        }
    }

    private static void staleReadOfOwnWriting(Check check) {
        CommitDesk desk = stale();
        check.same("stale read of its own writing", desk.read(2, 11), 110);
        check.same("open after it", desk.all(0), 1);
        check.same("stale ones after it", desk.all(2), 0);
        desk.write(2, 10, 3);
        check.same("stale read of the changed cell, written", desk.read(2, 10), 3);
        check.same("still stale", desk.count(2, 3), 1);
    }

    private static void sameNumberAgainIsStaleToo(Check check) {
        CommitDesk desk = new CommitDesk();
        desk.begin(2);
        desk.read(2, 10);
        desk.set(10, 1);
        desk.set(10, 0);
        check.refused("read when the number is there again", UnsupportedOperationException.class,
                () -> desk.read(2, 10));
    }

    private static void wrongInputs(Check check) {
        int[] noTransaction = {-1, 8, Integer.MIN_VALUE, Integer.MAX_VALUE};
        int[] noCell = {-1, 32, Integer.MIN_VALUE, Integer.MAX_VALUE};
        for (int t : noTransaction) {
            check.refusedWithoutTrace("read(" + t + ", 32)", IllegalArgumentException.class,
                    Promise03ReadTest::stale, desk -> desk.read(t, 32));
        }
        for (int k : noCell) {
            check.refusedWithoutTrace("stale read(2, " + k + ")", IndexOutOfBoundsException.class,
                    Promise03ReadTest::stale, desk -> desk.read(2, k));
            check.refusedWithoutTrace("read(3, " + k + ") not open", IndexOutOfBoundsException.class,
                    Promise03ReadTest::stale, desk -> desk.read(3, k));
        }
        check.refusedWithoutTrace("read(3, 0) not open", IllegalStateException.class,
                Promise03ReadTest::stale, desk -> desk.read(3, 0));
    }
}
