/**
 * Terms: "It is STALE if a CELL that it has READ was changed since it was first READ (also if it has the number
 * again): by another TRANSACTION that was DONE, or by set()."
 */
public final class TermsStaleTest {
    public static void main(String[] args) {
        Check check = new Check();
        byEachCellThatItHasRead(check);
        byNoneIfNothingIsRead(check);
        byNoOtherCell(check);
        notByAChangeBeforeItRead(check);
        sinceItWasFirstRead(check);
        alsoIfItHasTheNumberAgain(check);
        alsoIfItIsChangedToTheNumberThatItHas(check);
        byAnotherThatWasDone(check);
        notByAnotherThatWasNotDone(check);
        notByAnotherThatHasOnlyRead(check);
        notByACellThatItHasWrittenAlone(check);
        alsoIfItHasWrittenTheCellSinceThen(check);
        staysStale(check);
        check.end();
    }

    private static CommitDesk hasRead(int... cells) {
        CommitDesk desk = new CommitDesk();
        desk.begin(0);
        for (int k : cells) {
            desk.read(0, k);
        }
        return desk;
    }

    private static void byEachCellThatItHasRead(Check check) {
        for (int k = 0; k < 32; k++) {
            CommitDesk one = hasRead(k);
            one.set(k, 1);
            check.same("stale by cell " + k + ", the only one read", one.count(0, 3), 1);
            CommitDesk every = new CommitDesk();
            every.begin(0);
            for (int read = 0; read < 32; read++) {
                every.read(0, read);
            }
            check.same("stale with every cell read", every.count(0, 3), 0);
            every.set(k, 1);
            check.same("stale by cell " + k + ", every one read", every.count(0, 3), 1);
        }
    }

    private static void byNoneIfNothingIsRead(Check check) {
        CommitDesk desk = hasRead();
        for (int k = 0; k < 32; k++) {
            desk.set(k, 1);
            check.same("stale by cell " + k + ", nothing read", desk.count(0, 3), 0);
        }
        check.same("done", desk.done(0), true);
    }

    private static void byNoOtherCell(Check check) {
        for (int read = 0; read < 32; read++) {
            CommitDesk desk = hasRead(read);
            for (int k = 0; k < 32; k++) {
                if (k != read) {
                    desk.set(k, 1);
                }
            }
            check.same("stale by all but " + read + ", which is read", desk.count(0, 3), 0);
        }
    }

    private static void notByAChangeBeforeItRead(Check check) {
        CommitDesk desk = hasRead();
        desk.set(3, 1);
        desk.read(0, 3);
        check.same("stale by a change after begin, before read", desk.count(0, 3), 0);
        check.same("done", desk.done(0), true);
    }

    private static void sinceItWasFirstRead(Check check) {
        CommitDesk desk = hasRead(3, 3);
        desk.write(0, 3, 5);
        desk.set(3, 1);
        check.same("read of its own writing after the change", desk.read(0, 3), 5);
        check.same("stale though it read the cell again", desk.count(0, 3), 1);
    }

    private static void alsoIfItHasTheNumberAgain(Check check) {
        CommitDesk desk = hasRead(3);
        desk.set(3, 1);
        desk.set(3, 0);
        check.same("stale by a number that is there again", desk.count(0, 3), 1);
        check.same("done", desk.done(0), false);
    }

    private static void alsoIfItIsChangedToTheNumberThatItHas(Check check) {
        CommitDesk bySet = hasRead(3);
        bySet.set(3, 0);
        check.same("stale by a set to the number that it has", bySet.count(0, 3), 1);
        CommitDesk byDone = hasRead(3);
        byDone.begin(1);
        byDone.write(1, 3, 0);
        byDone.done(1);
        check.same("stale by a done with the number that it has", byDone.count(0, 3), 1);
    }

    private static void byAnotherThatWasDone(Check check) {
        for (int other = 1; other < 8; other++) {
            CommitDesk desk = hasRead(3);
            desk.begin(other);
            desk.write(other, 3, 9);
            check.same("stale while " + other + " is open", desk.count(0, 3), 0);
            desk.done(other);
            check.same("stale when " + other + " is done", desk.count(0, 3), 1);
        }
    }

    private static void notByAnotherThatWasNotDone(Check check) {
        CommitDesk desk = hasRead(3);
        desk.begin(1);
        desk.write(1, 3, 9);
        desk.leave(1);
        check.same("stale by one that left", desk.count(0, 3), 0);
        desk.begin(1);
        desk.read(1, 4);
        desk.write(1, 3, 9);
        desk.set(4, 1);
        check.same("done of a stale one", desk.done(1), false);
        check.same("stale by one that was stale itself", desk.count(0, 3), 0);
        desk.begin(1);
        desk.save(1);
        desk.write(1, 3, 9);
        desk.back(1);
        desk.done(1);
        check.same("stale by one that took it back", desk.count(0, 3), 0);
    }

    private static void notByAnotherThatHasOnlyRead(Check check) {
        CommitDesk desk = hasRead(3);
        desk.begin(1);
        desk.read(1, 3);
        desk.write(1, 4, 1);
        desk.done(1);
        check.same("stale by one that only read the cell", desk.count(0, 3), 0);
    }

    private static void notByACellThatItHasWrittenAlone(Check check) {
        CommitDesk desk = hasRead();
        desk.write(0, 3, 5);
        desk.read(0, 3);
        desk.set(3, 1);
        check.same("stale by a cell that it has only written", desk.count(0, 3), 0);
        check.same("done", desk.done(0), true);
        check.same("cell(3)", desk.cell(3), 5);
    }

    private static void alsoIfItHasWrittenTheCellSinceThen(Check check) {
        CommitDesk desk = hasRead(3);
        desk.write(0, 3, 5);
        check.same("stale by its own writing", desk.count(0, 3), 0);
        desk.set(3, 1);
        check.same("stale by a cell that it has read and written", desk.count(0, 3), 1);
    }

    private static void staysStale(Check check) {
        CommitDesk desk = hasRead(3);
        desk.save(0);
        desk.set(3, 1);
        desk.write(0, 3, 0);
        desk.keep(0);
        desk.save(0);
        desk.back(0);
        desk.set(4, 1);
        check.same("stale after write, keep, save and back", desk.count(0, 3), 1);
    }
}
