/** Terms: "What it SEES in a CELL is what it has WRITTEN there last, else what the CELL has." */
public final class TermsSeesTest {
    public static void main(String[] args) {
        Check check = new Check();
        whatIsWrittenLast(check);
        writtenInAnEarlierPart(check);
        aWrittenZeroIsWritten(check);
        elseWhatTheCellHasNow(check);
        elseWhatTheCellHasWhenTakenBack(check);
        notWhatOthersHaveWritten(check);
        check.end();
    }

    private static CommitDesk begunWithTen() {
        CommitDesk desk = new CommitDesk();
        desk.set(4, 10);
        desk.begin(0);
        return desk;
    }

    private static void whatIsWrittenLast(Check check) {
        CommitDesk desk = begunWithTen();
        desk.write(0, 4, 11);
        desk.write(0, 4, 12);
        check.same("written twice in one part", desk.read(0, 4), 12);
        desk.save(0);
        desk.write(0, 4, 13);
        check.same("written in the second part", desk.read(0, 4), 13);
        desk.write(0, 4, 12);
        check.same("written back to an earlier number", desk.read(0, 4), 12);
    }

    private static void writtenInAnEarlierPart(Check check) {
        CommitDesk desk = begunWithTen();
        desk.write(0, 4, 11);
        for (int part = 2; part <= 5; part++) {
            desk.save(0);
            check.same("written in the first of " + part, desk.read(0, 4), 11);
        }
        check.same("cells read by that", desk.count(0, 0), 0);
    }

    private static void aWrittenZeroIsWritten(Check check) {
        CommitDesk desk = begunWithTen();
        desk.write(0, 4, 0);
        check.same("a written 0 where the cell has 10", desk.read(0, 4), 0);
        check.same("cells read by that", desk.count(0, 0), 0);
        desk.done(0);
        check.same("the cell when done", desk.cell(4), 0);
    }

    private static void elseWhatTheCellHasNow(Check check) {
        CommitDesk desk = begunWithTen();
        desk.set(4, 20);
        check.same("set after it began", desk.read(0, 4), 20);
        desk.begin(1);
        desk.write(1, 5, 30);
        desk.done(1);
        check.same("done by another after it began", desk.read(0, 5), 30);
        check.same("stale", desk.count(0, 3), 0);
    }

    private static void elseWhatTheCellHasWhenTakenBack(Check check) {
        CommitDesk desk = begunWithTen();
        desk.save(0);
        desk.write(0, 4, 11);
        desk.set(4, 20);
        check.same("its own writing", desk.read(0, 4), 11);
        desk.back(0);
        check.same("when its writing is taken back", desk.read(0, 4), 20);
    }

    private static void notWhatOthersHaveWritten(Check check) {
        CommitDesk desk = begunWithTen();
        desk.begin(1);
        desk.write(1, 4, 99);
        check.same("written by another", desk.read(0, 4), 10);
        desk.leave(1);
        check.same("written by another that left", desk.read(0, 4), 10);
        check.same("stale", desk.count(0, 3), 0);
    }
}
