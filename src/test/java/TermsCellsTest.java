/** Terms: "CELLS 0..31 have numbers, 0 at first." */
public final class TermsCellsTest {
    public static void main(String[] args) {
        Check check = new Check();
        firstAndLastInEveryCall(check);
        noneBeyondInAnyCall(check);
        zeroAtFirst(check);
        everyNumberIsHeld(check);
        eachHasItsOwn(check);
        check.end();
    }

    private static void firstAndLastInEveryCall(Check check) {
        int[] edges = {0, 31};
        for (int k : edges) {
            CommitDesk desk = new CommitDesk();
            desk.set(k, 5);
            check.same("cell(" + k + ")", desk.cell(k), 5);
            desk.begin(0);
            check.same("read(0, " + k + ")", desk.read(0, k), 5);
            desk.write(0, k, 6);
            check.same("read(0, " + k + ") of its own writing", desk.read(0, k), 6);
            check.same("done", desk.done(0), true);
            check.same("cell(" + k + ") when done", desk.cell(k), 6);
            check.same("changed(" + k + ")", desk.changed(k), 2);
        }
    }

    private static void noneBeyondInAnyCall(Check check) {
        for (int k : Edges.NO_CELL) {
            for (Call call : Call.OF_A_CELL) {
                check.refusedWithoutTrace(call.with(k), IndexOutOfBoundsException.class,
                        Desks::busy, desk -> call.body().accept(desk, k));
            }
            for (Call call : Call.ofACell(1)) {
                check.refusedWithoutTrace(call.with(k), IndexOutOfBoundsException.class,
                        Desks::busy, desk -> call.body().accept(desk, k));
            }
        }
    }

    private static void zeroAtFirst(Check check) {
        CommitDesk desk = new CommitDesk();
        desk.begin(3);
        for (int k = 0; k < 32; k++) {
            check.same("cell(" + k + ") at first", desk.cell(k), 0);
            check.same("read(3, " + k + ") at first", desk.read(3, k), 0);
            check.same("changed(" + k + ") at first", desk.changed(k), 0);
        }
    }

    private static void everyNumberIsHeld(Check check) {
        for (long v : Edges.NUMBERS) {
            CommitDesk desk = new CommitDesk();
            desk.set(0, v);
            check.same("cell(0) set", desk.cell(0), v);
            desk.begin(0);
            check.same("read(0, 0) set", desk.read(0, 0), v);
            desk.write(0, 31, v);
            check.same("read(0, 31) written", desk.read(0, 31), v);
            desk.save(0);
            desk.write(0, 30, v);
            desk.keep(0);
            check.same("read(0, 30) kept", desk.read(0, 30), v);
            desk.done(0);
            check.same("cell(31) done", desk.cell(31), v);
            check.same("cell(30) done", desk.cell(30), v);
        }
    }

    private static void eachHasItsOwn(Check check) {
        for (int k = 0; k < 32; k++) {
            CommitDesk desk = new CommitDesk();
            desk.set(k, 7);
            for (int other = 0; other < 32; other++) {
                check.same("cell(" + other + ") when " + k + " is set", desk.cell(other), other == k ? 7 : 0);
                check.same("changed(" + other + ") when " + k + " is set", desk.changed(other), other == k ? 1 : 0);
            }
        }
    }
}
