/**
 * Terms: "IllegalArgumentException: there is no such TRANSACTION; IndexOutOfBoundsException: there is no such CELL;
 * IllegalStateException: the TRANSACTION is not OPEN; looked at in this order, what a method says besides behind
 * these (but another what of count first of all)."
 */
public final class TermsOrderTest {
    private static final int NOTHING_READ = 0;
    private static final int FIVE_PARTS = 1;
    private static final int STALE = 2;
    private static final int WAS_DONE = 5;
    private static final int WAS_STALE = 6;
    private static final int LEFT = 7;

    public static void main(String[] args) {
        Check check = new Check();
        transactionBeforeCell(check);
        cellBeforeOpen(check);
        cellBeforeStale(check);
        openBeforeStale(check);
        openBeforeParts(check);
        whatOfCountFirstOfAll(check);
        transactionBeforeOpenInCount(check);
        check.end();
    }

    private static void transactionBeforeCell(Check check) {
        for (int t : Edges.NO_TRANSACTION) {
            for (int k : Edges.NO_CELL) {
                CommitDesk desk = Desks.busy();
                check.refused("read(" + t + ", " + k + ")", IllegalArgumentException.class, () -> desk.read(t, k));
                check.refused("write(" + t + ", " + k + ", 1)", IllegalArgumentException.class,
                        () -> desk.write(t, k, 1));
            }
        }
    }

    private static void cellBeforeOpen(Check check) {
        int[] closed = {WAS_DONE, WAS_STALE, LEFT};
        for (int t : closed) {
            for (Call call : Call.ofACell(t)) {
                for (int k : Edges.NO_CELL) {
                    check.refusedWithoutTrace(call.with(k) + ", not open", IndexOutOfBoundsException.class,
                            Desks::busy, desk -> call.body().accept(desk, k));
                }
            }
        }
    }

    private static void cellBeforeStale(Check check) {
        for (int k : Edges.NO_CELL) {
            check.refusedWithoutTrace("read " + k + " of a stale one", IndexOutOfBoundsException.class,
                    Desks::busy, desk -> desk.read(STALE, k));
        }
    }

    private static void openBeforeStale(Check check) {
        check.refusedWithoutTrace("read of one that was stale", IllegalStateException.class,
                Desks::busy, desk -> desk.read(WAS_STALE, 8));
        check.refusedWithoutTrace("count 3 of one that was stale", IllegalStateException.class,
                Desks::busy, desk -> desk.count(WAS_STALE, 3));
        check.refusedWithoutTrace("begin of a stale one", IllegalStateException.class,
                Desks::busy, desk -> desk.begin(STALE));
    }

    private static void openBeforeParts(Check check) {
        check.refusedWithoutTrace("save of a closed one that had five parts", IllegalStateException.class,
                Desks::busy, desk -> desk.save(WAS_STALE));
        check.refused("save of an open one with five parts", UnsupportedOperationException.class,
                () -> Desks.busy().save(FIVE_PARTS));
        int[] closedWithOnePart = {WAS_DONE, LEFT};
        for (int t : closedWithOnePart) {
            check.refusedWithoutTrace("back of a closed one that had one part", IllegalStateException.class,
                    Desks::busy, desk -> desk.back(t));
            check.refusedWithoutTrace("keep of a closed one that had one part", IllegalStateException.class,
                    Desks::busy, desk -> desk.keep(t));
        }
        check.refused("back of an open one with one part", UnsupportedOperationException.class,
                () -> Desks.busy().back(NOTHING_READ));
        check.refused("keep of an open one with one part", UnsupportedOperationException.class,
                () -> Desks.busy().keep(NOTHING_READ));
    }

    private static void whatOfCountFirstOfAll(Check check) {
        int[] transactions = {NOTHING_READ, STALE, WAS_DONE, WAS_STALE, LEFT, -1, 8};
        for (int what : Edges.NO_WHAT_OF_COUNT) {
            for (int t : transactions) {
                check.refusedWithoutTrace("count(" + t + ", " + what + ")", IllegalArgumentException.class,
                        Desks::busy, desk -> desk.count(t, what));
            }
        }
    }

    private static void transactionBeforeOpenInCount(Check check) {
        for (int what = 0; what < 4; what++) {
            int one = what;
            for (int t : Edges.NO_TRANSACTION) {
                CommitDesk desk = new CommitDesk();
                check.refused("count(" + t + ", " + what + ") with none open", IllegalArgumentException.class,
                        () -> desk.count(t, one));
            }
            check.refused("count(" + LEFT + ", " + what + ")", IllegalStateException.class,
                    () -> Desks.busy().count(LEFT, one));
        }
    }
}
