/** Promise 14: all. */
public final class Promise14AllTest {
    public static void main(String[] args) {
        Check check = new Check();
        what0CountsOpenOnes(check);
        what0AfterEachWayToEnd(check);
        what1CountsDoneOnes(check);
        what1CountsNoOthers(check);
        what2CountsStaleOnesToBeDone(check);
        what2CountsStaleOnesToBeRead(check);
        what2CountsNoReadOfItsOwnWriting(check);
        what2CountsNoLeave(check);
        what2CountsEachTime(check);
        wrongInputs(check);
        check.end();
    }

    /** "What 0: TRANSACTIONS that are OPEN": from none to all eight. */
    private static void what0CountsOpenOnes(Check check) {
        CommitDesk desk = new CommitDesk();
        check.same("open at first", desk.all(0), 0);
        for (int t = 7; t >= 0; t--) {
            desk.begin(t);
            check.same("open", desk.all(0), 8 - t);
        }
        for (int t = 0; t < 8; t++) {
            desk.leave(t);
            check.same("open after leave", desk.all(0), 7 - t);
        }
    }

    private static void what0AfterEachWayToEnd(Check check) {
        CommitDesk desk = Desks.busy();
        check.same("open", desk.all(0), 5);
        desk.done(4);
        check.same("open after done", desk.all(0), 4);
        desk.done(2);
        check.same("open after a stale done", desk.all(0), 3);
        desk.leave(1);
        check.same("open after leave", desk.all(0), 2);
        // 4 was done and wrote every cell, so 3, which has read every cell, is stale.
        check.refused("stale read", UnsupportedOperationException.class, () -> desk.read(3, 0));
        check.same("open after a stale read", desk.all(0), 1);
    }

    /** "1: that were DONE". */
    private static void what1CountsDoneOnes(Check check) {
        CommitDesk desk = new CommitDesk();
        for (int n = 1; n <= 20; n++) {
            desk.begin(n % 8);
            check.same("done ones while it is open", desk.all(1), n - 1);
            desk.done(n % 8);
            check.same("done ones", desk.all(1), n);
        }
        check.same("stale ones", desk.all(2), 0);
    }

    private static void what1CountsNoOthers(Check check) {
        CommitDesk desk = stale();
        desk.done(0);
        check.same("done ones after a stale done", desk.all(1), 0);
        desk.begin(0);
        desk.leave(0);
        check.same("done ones after leave", desk.all(1), 0);
        check.refused("done of one that is not open", IllegalStateException.class, () -> desk.done(0));
        check.same("done ones after a refused done", desk.all(1), 0);
    }

    private static CommitDesk stale() {
        CommitDesk desk = new CommitDesk();
        makeStale(desk, 0);
        return desk;
    }

    private static void makeStale(CommitDesk desk, int t) {
        desk.begin(t);
        desk.read(t, 1);
        desk.write(t, 2, 5);
        desk.set(1, 1);
    }

    /** "2: that were STALE when they were to be done". */
    private static void what2CountsStaleOnesToBeDone(Check check) {
        CommitDesk desk = stale();
        check.same("stale ones before done", desk.all(2), 0);
        desk.done(0);
        check.same("stale ones after done", desk.all(2), 1);
        check.refused("done once more", IllegalStateException.class, () -> desk.done(0));
        check.same("stale ones after a refused done", desk.all(2), 1);
        check.same("done ones", desk.all(1), 0);
    }

    /** "or read". */
    private static void what2CountsStaleOnesToBeRead(Check check) {
        CommitDesk desk = stale();
        check.refused("read of a stale one", UnsupportedOperationException.class, () -> desk.read(0, 3));
        check.same("stale ones after read", desk.all(2), 1);
        check.refused("read of a closed one", IllegalStateException.class, () -> desk.read(0, 3));
        check.same("stale ones after a refused read", desk.all(2), 1);
        check.same("done ones", desk.all(1), 0);
        check.same("open", desk.all(0), 0);
    }

    private static void what2CountsNoReadOfItsOwnWriting(Check check) {
        CommitDesk desk = stale();
        check.same("stale read of its own writing", desk.read(0, 2), 5);
        check.same("stale ones after it", desk.all(2), 0);
        desk.done(0);
        check.same("stale ones after done", desk.all(2), 1);
    }

    private static void what2CountsNoLeave(Check check) {
        CommitDesk desk = stale();
        desk.leave(0);
        check.same("stale ones after leave", desk.all(2), 0);
    }

    private static void what2CountsEachTime(Check check) {
        CommitDesk desk = new CommitDesk();
        for (int n = 1; n <= 20; n++) {
            makeStale(desk, n % 2);
            desk.done(n % 2);
            check.same("stale ones", desk.all(2), n);
        }
    }

    /** "IllegalArgumentException for others." */
    private static void wrongInputs(Check check) {
        for (int what : Edges.NO_WHAT_OF_ALL) {
            check.refusedWithoutTrace("all(" + what + ")", IllegalArgumentException.class,
                    Promise14AllTest::stale, desk -> desk.all(what));
            check.refusedWithoutTrace("all(" + what + ") with none open", IllegalArgumentException.class,
                    CommitDesk::new, desk -> desk.all(what));
        }
    }
}
