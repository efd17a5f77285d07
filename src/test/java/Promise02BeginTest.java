/** Promise 2: begin. */
public final class Promise02BeginTest {
    public static void main(String[] args) {
        Check check = new Check();
        everyTransactionBegins(check);
        nothingIsLeftOfTheLastTime(check);
        wrongInputs(check);
        check.end();
    }

    private static void everyTransactionBegins(Check check) {
        CommitDesk desk = new CommitDesk();
        for (int t = 0; t < 8; t++) {
            desk.begin(t);
            check.same("all(0)", desk.all(0), t + 1);
            check.same("count(" + t + ", 0)", desk.count(t, 0), 0);
            check.same("count(" + t + ", 1)", desk.count(t, 1), 0);
            check.same("count(" + t + ", 2)", desk.count(t, 2), 1);
            check.same("count(" + t + ", 3)", desk.count(t, 3), 0);
        }
    }

    private static void nothingIsLeftOfTheLastTime(Check check) {
        CommitDesk desk = openAndStale();
        desk.leave(4);
        desk.begin(4);
        check.same("cells read after begin", desk.count(4, 0), 0);
        check.same("cells written after begin", desk.count(4, 1), 0);
        check.same("parts after begin", desk.count(4, 2), 1);
        check.same("stale after begin", desk.count(4, 3), 0);
        check.same("read after begin", desk.read(4, 6), 0);
        desk.save(4);
        check.same("cells written in a second part", desk.count(4, 1), 0);
        desk.leave(4);
        desk.begin(4);
        desk.set(5, 2);
        check.same("stale by a cell read the last time", desk.count(4, 3), 0);
    }

    private static CommitDesk openAndStale() {
        CommitDesk desk = new CommitDesk();
        desk.begin(4);
        desk.read(4, 5);
        desk.write(4, 6, 60);
        desk.save(4);
        desk.write(4, 7, 70);
        desk.set(5, 1);
        return desk;
    }

    private static void wrongInputs(Check check) {
        int[] none = {-1, 8, Integer.MIN_VALUE, Integer.MAX_VALUE};
        for (int t : none) {
            check.refusedWithoutTrace("begin(" + t + ")", IllegalArgumentException.class,
                    Promise02BeginTest::openAndStale, desk -> desk.begin(t));
        }
        check.refusedWithoutTrace("begin of an open one", IllegalStateException.class,
                Promise02BeginTest::openAndStale, desk -> desk.begin(4));
    }
}
