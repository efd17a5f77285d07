import java.util.function.Consumer;

/** Promise 2: begin. */
public final class Promise02BeginTest {
    public static void main(String[] args) {
        Check check = new Check();
        everyTransactionBegins(check);
        nothingIsReadOrWritten(check);
        noCellReadTheLastTimeMakesItStale(check);
        othersStayAsTheyAre(check);
        openOnesAreRefused(check);
        wrongInputs(check);
        check.end();
    }

    private static void everyTransactionBegins(Check check) {
        CommitDesk desk = new CommitDesk();
        for (int t = 0; t < 8; t++) {
            desk.begin(t);
            check.same("all(0)", desk.all(0), t + 1);
            checkFresh(check, "begin(" + t + ")", desk, t);
        }
    }

    private static void checkFresh(Check check, String when, CommitDesk desk, int t) {
        check.same("cells read after " + when, desk.count(t, 0), 0);
        check.same("cells written after " + when, desk.count(t, 1), 0);
        check.same("parts after " + when, desk.count(t, 2), 1);
        check.same("stale after " + when, desk.count(t, 3), 0);
    }

    /** "nothing is READ or WRITTEN", however it ended the last time. */
    private static void nothingIsReadOrWritten(Check check) {
        beginsAfresh(check, "leave", stale(), desk -> desk.leave(4));
        beginsAfresh(check, "a done that was stale", stale(), desk -> desk.done(4));
        beginsAfresh(check, "a read that was stale", stale(), desk -> check.refused("stale read",
                UnsupportedOperationException.class, () -> desk.read(4, 9)));
        beginsAfresh(check, "leave with all read and written", full(), desk -> desk.leave(4));
        CommitDesk done = full();
        done.done(4);
        done.begin(4);
        checkFresh(check, "a done with all read and written", done, 4);
        check.same("read after it", done.read(4, 31), 531);
    }

    private static void beginsAfresh(Check check, String end, CommitDesk desk, Consumer<CommitDesk> ending) {
        ending.accept(desk);
        desk.begin(4);
        checkFresh(check, end, desk, 4);
        for (int k = 0; k < 32; k++) {
            check.same("read(4, " + k + ") after " + end, desk.read(4, k), desk.cell(k));
        }
        desk.save(4);
        check.same("cells written in a second part after " + end, desk.count(4, 1), 0);
    }

    /** Five parts, in each of which every cell is written; every cell is read. */
    private static CommitDesk full() {
        CommitDesk desk = new CommitDesk();
        desk.begin(4);
        for (int k = 0; k < 32; k++) {
            desk.read(4, k);
        }
        for (int part = 1; part <= 5; part++) {
            for (int k = 0; k < 32; k++) {
                desk.write(4, k, 100 * part + k);
            }
            if (part < 5) {
                desk.save(4);
            }
        }
        return desk;
    }

    private static CommitDesk stale() {
        CommitDesk desk = new CommitDesk();
        desk.begin(4);
        desk.read(4, 5);
        desk.write(4, 6, 60);
        desk.save(4);
        desk.write(4, 7, 70);
        desk.set(5, 1);
        return desk;
    }

    private static void noCellReadTheLastTimeMakesItStale(Check check) {
        CommitDesk desk = new CommitDesk();
        desk.begin(4);
        desk.read(4, 5);
        desk.leave(4);
        desk.set(5, 1);
        desk.begin(4);
        check.same("stale by a change while it was not open", desk.count(4, 3), 0);
        desk.set(5, 2);
        check.same("stale by a cell read the last time", desk.count(4, 3), 0);
        check.same("done", desk.done(4), true);
    }

    private static void othersStayAsTheyAre(Check check) {
        CommitDesk desk = stale();
        desk.begin(3);
        desk.begin(5);
        check.same("cells read by another", desk.count(4, 0), 1);
        check.same("cells written by another", desk.count(4, 1), 2);
        check.same("parts of another", desk.count(4, 2), 2);
        check.same("another is stale", desk.count(4, 3), 1);
    }

    /** "IllegalStateException: it is OPEN." */
    private static void openOnesAreRefused(Check check) {
        check.refusedWithoutTrace("begin of one with nothing", IllegalStateException.class,
                Promise02BeginTest::begun, desk -> desk.begin(4));
        check.refusedWithoutTrace("begin of a stale one", IllegalStateException.class,
                Promise02BeginTest::stale, desk -> desk.begin(4));
        check.refusedWithoutTrace("begin of one that has all", IllegalStateException.class,
                Promise02BeginTest::full, desk -> desk.begin(4));
    }

    private static CommitDesk begun() {
        CommitDesk desk = new CommitDesk();
        desk.begin(4);
        return desk;
    }

    private static void wrongInputs(Check check) {
        for (int t : Edges.NO_TRANSACTION) {
            check.refusedWithoutTrace("begin(" + t + ")", IllegalArgumentException.class,
                    Promise02BeginTest::stale, desk -> desk.begin(t));
            check.refusedWithoutTrace("begin(" + t + ") with none open", IllegalArgumentException.class,
                    CommitDesk::new, desk -> desk.begin(t));
        }
    }
}
