/** Promise 4: write. */
public final class Promise04WriteTest {
    public static void main(String[] args) {
        Check check = new Check();
        writesAreSeenByItselfAlone(check);
        everyNumberInEveryCell(check);
        theNumberThatTheCellHasIsWrittenToo(check);
        writesGoIntoTheLastPart(check);
        eachOfFivePartsCanBeTheLast(check);
        staleOnesMayWrite(check);
        wrongInputs(check);
        check.end();
    }

    private static void writesAreSeenByItselfAlone(Check check) {
        CommitDesk desk = new CommitDesk();
        desk.begin(0);
        desk.begin(1);
        desk.read(1, 31);
        desk.write(0, 0, Long.MIN_VALUE);
        desk.write(0, 31, 1);
        desk.write(0, 31, Long.MAX_VALUE);
        check.same("read(0, 0)", desk.read(0, 0), Long.MIN_VALUE);
        check.same("read(0, 31)", desk.read(0, 31), Long.MAX_VALUE);
        check.same("cells written", desk.count(0, 1), 2);
        check.same("cells read", desk.count(0, 0), 0);
        check.same("cell(31)", desk.cell(31), 0);
        check.same("changed(31)", desk.changed(31), 0);
        check.same("read by another", desk.read(1, 31), 0);
        check.same("another is stale", desk.count(1, 3), 0);
    }

    private static void everyNumberInEveryCell(Check check) {
        for (long v : Edges.NUMBERS) {
            CommitDesk desk = new CommitDesk();
            desk.begin(0);
            for (int k = 0; k < 32; k++) {
                desk.write(0, k, v - k);
                check.same("cells written", desk.count(0, 1), k + 1);
            }
            for (int k = 0; k < 32; k++) {
                check.same("read(0, " + k + ")", desk.read(0, k), v - k);
            }
        }
    }

    private static void theNumberThatTheCellHasIsWrittenToo(Check check) {
        CommitDesk desk = new CommitDesk();
        desk.begin(0);
        desk.write(0, 3, 0);
        check.same("cells written", desk.count(0, 1), 1);
        desk.read(0, 3);
        check.same("cells read", desk.count(0, 0), 0);
        desk.set(3, 5);
        check.same("read after set", desk.read(0, 3), 0);
    }

    /** "It has WRITTEN v in a CELL, in its last PART." */
    private static void writesGoIntoTheLastPart(Check check) {
        CommitDesk desk = new CommitDesk();
        desk.begin(0);
        desk.write(0, 1, 10);
        desk.save(0);
        desk.write(0, 1, 20);
        desk.write(0, 2, 30);
        check.same("read in the second part", desk.read(0, 1), 20);
        check.same("cells written in both", desk.count(0, 1), 2);
        desk.back(0);
        check.same("read in the first part", desk.read(0, 1), 10);
        check.same("cells written in the first", desk.count(0, 1), 1);
    }

    private static void eachOfFivePartsCanBeTheLast(Check check) {
        for (int parts = 2; parts <= 5; parts++) {
            CommitDesk desk = new CommitDesk();
            desk.begin(0);
            for (int part = 2; part <= parts; part++) {
                desk.save(0);
            }
            desk.write(0, 1, parts);
            check.same("written in part " + parts, desk.read(0, 1), parts);
            desk.back(0);
            check.same("cells written without part " + parts, desk.count(0, 1), 0);
            check.same("read without part " + parts, desk.read(0, 1), 0);
        }
    }

    private static void staleOnesMayWrite(Check check) {
        CommitDesk desk = readyToWrite();
        desk.set(1, 4);
        desk.write(0, 3, 33);
        desk.write(0, 1, 11);
        check.same("read of a stale one's writing", desk.read(0, 3), 33);
        check.same("read of its writing in the changed cell", desk.read(0, 1), 11);
        check.same("open", desk.all(0), 1);
        check.same("stale ones", desk.all(2), 0);
    }

    private static CommitDesk readyToWrite() {
        CommitDesk desk = new CommitDesk();
        desk.begin(0);
        desk.read(0, 1);
        desk.write(0, 2, 5);
        return desk;
    }

    private static void wrongInputs(Check check) {
        for (int t : Edges.NO_TRANSACTION) {
            check.refusedWithoutTrace("write(" + t + ", 0, 1)", IllegalArgumentException.class,
                    Promise04WriteTest::readyToWrite, desk -> desk.write(t, 0, 1));
            check.refusedWithoutTrace("write(" + t + ", 32, 1)", IllegalArgumentException.class,
                    Promise04WriteTest::readyToWrite, desk -> desk.write(t, 32, 1));
        }
        for (int k : Edges.NO_CELL) {
            check.refusedWithoutTrace("write(0, " + k + ", 1)", IndexOutOfBoundsException.class,
                    Promise04WriteTest::readyToWrite, desk -> desk.write(0, k, 1));
            check.refusedWithoutTrace("write(1, " + k + ", 1) not open", IndexOutOfBoundsException.class,
                    Promise04WriteTest::readyToWrite, desk -> desk.write(1, k, 1));
        }
        for (long v : Edges.NUMBERS) {
            check.refusedWithoutTrace("write(1, 0, " + v + ") not open", IllegalStateException.class,
                    Promise04WriteTest::readyToWrite, desk -> desk.write(1, 0, v));
        }
    }
}
