/** Promise 13: count. */
public final class Promise13CountTest {
    public static void main(String[] args) {
        Check check = new Check();
        countsReadCells(check);
        countsWrittenCells(check);
        countsParts(check);
        tellsWhetherItIsStale(check);
        wrongInputs(check);
        check.end();
    }

    private static void countsReadCells(Check check) {
        CommitDesk desk = new CommitDesk();
        desk.begin(7);
        for (int k = 0; k < 32; k++) {
            desk.read(7, k);
            desk.read(7, k);
            check.same("cells read", desk.count(7, 0), k + 1);
        }
        desk.write(7, 3, 1);
        check.same("cells read after one was written", desk.count(7, 0), 32);
        check.same("cells written", desk.count(7, 1), 1);
    }

    private static void countsWrittenCells(Check check) {
        CommitDesk desk = new CommitDesk();
        desk.begin(0);
        for (int k = 0; k < 32; k++) {
            desk.write(0, k, 0);
            desk.write(0, k, 1);
            check.same("cells written", desk.count(0, 1), k + 1);
        }
        desk.save(0);
        desk.write(0, 4, 1);
        check.same("cells written, one in both parts", desk.count(0, 1), 32);
        check.same("cells read", desk.count(0, 0), 0);
    }

    private static void countsParts(Check check) {
        CommitDesk desk = new CommitDesk();
        desk.begin(0);
        check.same("parts", desk.count(0, 2), 1);
        desk.save(0);
        desk.save(0);
        check.same("parts after two saves", desk.count(0, 2), 3);
        desk.keep(0);
        check.same("parts after keep", desk.count(0, 2), 2);
        desk.back(0);
        check.same("parts after back", desk.count(0, 2), 1);
    }

    private static void tellsWhetherItIsStale(Check check) {
        CommitDesk desk = new CommitDesk();
        desk.begin(0);
        desk.set(1, 1);
        check.same("stale by a change before it read", desk.count(0, 3), 0);
        desk.read(0, 1);
        check.same("stale when it has read", desk.count(0, 3), 0);
        desk.set(2, 1);
        check.same("stale by another cell", desk.count(0, 3), 0);
        desk.set(1, 2);
        desk.set(1, 1);
        check.same("stale by a cell that has its number again", desk.count(0, 3), 1);
        check.same("open when asked", desk.all(0), 1);
        check.same("stale ones when asked", desk.all(2), 0);
    }

    private static CommitDesk withOneOpen() {
        CommitDesk desk = new CommitDesk();
        desk.begin(0);
        desk.read(0, 1);
        desk.write(0, 2, 3);
        return desk;
    }

    private static void wrongInputs(Check check) {
        int[] noTransaction = {-1, 8, Integer.MIN_VALUE, Integer.MAX_VALUE};
        int[] noWhat = {-1, 4, Integer.MIN_VALUE, Integer.MAX_VALUE};
        for (int what : noWhat) {
            check.refusedWithoutTrace("count(0, " + what + ")", IllegalArgumentException.class,
                    Promise13CountTest::withOneOpen, desk -> desk.count(0, what));
            check.refusedWithoutTrace("count(1, " + what + ") not open", IllegalArgumentException.class,
                    Promise13CountTest::withOneOpen, desk -> desk.count(1, what));
        }
        for (int what = 0; what < 4; what++) {
            int one = what;
            for (int t : noTransaction) {
                check.refusedWithoutTrace("count(" + t + ", " + what + ")", IllegalArgumentException.class,
                        Promise13CountTest::withOneOpen, desk -> desk.count(t, one));
            }
            check.refusedWithoutTrace("count(1, " + what + ") not open", IllegalStateException.class,
                    Promise13CountTest::withOneOpen, desk -> desk.count(1, one));
        }
    }
}
