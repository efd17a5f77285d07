/** Promise 14: all. */
public final class Promise14AllTest {
    public static void main(String[] args) {
        Check check = new Check();
        countsOpenOnes(check);
        countsDoneOnes(check);
        countsStaleOnes(check);
        wrongInputs(check);
        check.end();
    }

    private static void countsOpenOnes(Check check) {
        CommitDesk desk = new CommitDesk();
        for (int t = 7; t >= 0; t--) {
            desk.begin(t);
            check.same("open", desk.all(0), 8 - t);
        }
        desk.done(3);
        check.same("open after done", desk.all(0), 7);
        desk.leave(0);
        check.same("open after leave", desk.all(0), 6);
    }

    private static void countsDoneOnes(Check check) {
        CommitDesk desk = new CommitDesk();
        for (int n = 1; n <= 10; n++) {
            desk.begin(2);
            check.same("done ones while it is open", desk.all(1), n - 1);
            desk.done(2);
            check.same("done ones", desk.all(1), n);
        }
        desk.begin(2);
        desk.leave(2);
        check.same("done ones after leave", desk.all(1), 10);
        check.same("stale ones", desk.all(2), 0);
    }

    private static void makeStale(CommitDesk desk) {
        desk.begin(0);
        desk.read(0, 1);
        desk.write(0, 2, 5);
        desk.set(1, 1);
    }

    private static void countsStaleOnes(Check check) {
        CommitDesk desk = new CommitDesk();
        makeStale(desk);
        desk.read(0, 2);
        check.same("stale ones after a read that answered", desk.all(2), 0);
        desk.leave(0);
        check.same("stale ones after leave", desk.all(2), 0);
        makeStale(desk);
        desk.done(0);
        check.same("stale ones after done", desk.all(2), 1);
        makeStale(desk);
        check.refused("read of a stale one", UnsupportedOperationException.class, () -> desk.read(0, 3));
        check.same("stale ones after read", desk.all(2), 2);
        check.refused("read of a closed one", IllegalStateException.class, () -> desk.read(0, 3));
        check.same("stale ones after that", desk.all(2), 2);
        check.same("done ones", desk.all(1), 0);
        check.same("open", desk.all(0), 0);
    }

    private static CommitDesk stale() {
        CommitDesk desk = new CommitDesk();
        makeStale(desk);
        return desk;
    }

    private static void wrongInputs(Check check) {
        int[] none = {-1, 3, Integer.MIN_VALUE, Integer.MAX_VALUE};
        for (int what : none) {
            check.refusedWithoutTrace("all(" + what + ")", IllegalArgumentException.class,
                    Promise14AllTest::stale, desk -> desk.all(what));
        }
    }
}
