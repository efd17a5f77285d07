/** Promise 5: save. */
public final class Promise05SaveTest {
    public static void main(String[] args) {
        Check check = new Check();
        tellsHowManyPartsThereAre(check);
        thereAreFiveAgainAfterBackAndKeep(check);
        eachTransactionHasFiveOfItsOwn(check);
        aNewPartIsEmpty(check);
        whatItSeesStays(check);
        staleOnesMaySave(check);
        noneBeyondFive(check);
        wrongInputs(check);
        check.end();
    }

    /** "A further PART begins: how many there are." */
    private static void tellsHowManyPartsThereAre(Check check) {
        CommitDesk desk = new CommitDesk();
        desk.begin(7);
        desk.begin(6);
        for (int parts = 2; parts <= 5; parts++) {
            check.same("save(7)", desk.save(7), parts);
            check.same("count(7, 2)", desk.count(7, 2), parts);
        }
        check.same("parts of another", desk.count(6, 2), 1);
    }

    private static void thereAreFiveAgainAfterBackAndKeep(Check check) {
        CommitDesk desk = withFiveParts();
        desk.back(3);
        check.same("save after back", desk.save(3), 5);
        desk.keep(3);
        check.same("save after keep", desk.save(3), 5);
        check.refused("save once more", UnsupportedOperationException.class, () -> desk.save(3));
        desk.leave(3);
        desk.begin(3);
        check.same("save when begun again", desk.save(3), 2);
    }

    private static void eachTransactionHasFiveOfItsOwn(Check check) {
        CommitDesk desk = new CommitDesk();
        for (int t = 0; t < 8; t++) {
            int one = t;
            desk.begin(t);
            for (int parts = 2; parts <= 5; parts++) {
                check.same("save(" + t + ")", desk.save(t), parts);
            }
            check.refused("save(" + t + ") with five", UnsupportedOperationException.class, () -> desk.save(one));
        }
    }

    private static void aNewPartIsEmpty(Check check) {
        CommitDesk desk = new CommitDesk();
        desk.begin(0);
        desk.save(0);
        desk.write(0, 1, 7);
        desk.write(0, 31, 8);
        desk.back(0);
        desk.save(0);
        check.same("cells written in a part begun again", desk.count(0, 1), 0);
        desk.write(0, 1, 9);
        desk.save(0);
        check.same("read across parts", desk.read(0, 1), 9);
        desk.keep(0);
        desk.keep(0);
        check.same("cells written when all is kept", desk.count(0, 1), 1);
        desk.save(0);
        desk.back(0);
        check.same("cells written when a part after that is taken back", desk.count(0, 1), 1);
    }

    private static void whatItSeesStays(Check check) {
        CommitDesk desk = new CommitDesk();
        desk.begin(0);
        desk.read(0, 1);
        desk.write(0, 2, 20);
        desk.save(0);
        check.same("cells read", desk.count(0, 0), 1);
        check.same("cells written", desk.count(0, 1), 1);
        check.same("read of what was written before", desk.read(0, 2), 20);
        desk.set(1, 0);
        check.same("stale by what was read before", desk.count(0, 3), 1);
    }

    private static void staleOnesMaySave(Check check) {
        CommitDesk desk = new CommitDesk();
        desk.begin(0);
        desk.read(0, 1);
        desk.set(1, 1);
        for (int parts = 2; parts <= 5; parts++) {
            check.same("save of a stale one", desk.save(0), parts);
        }
        check.refused("save of a stale one with five", UnsupportedOperationException.class, () -> desk.save(0));
        check.same("open", desk.all(0), 1);
        check.same("stale ones", desk.all(2), 0);
    }

    private static CommitDesk withFiveParts() {
        CommitDesk desk = new CommitDesk();
        desk.begin(3);
        for (int part = 1; part < 5; part++) {
            desk.write(3, part, 10 + part);
            desk.save(3);
        }
        desk.write(3, 5, 15);
        return desk;
    }

    /** "UnsupportedOperationException: there are five." */
    private static void noneBeyondFive(Check check) {
        check.refusedWithoutTrace("save(3) with five parts", UnsupportedOperationException.class,
                Promise05SaveTest::withFiveParts, desk -> desk.save(3));
        CommitDesk desk = withFiveParts();
        for (int n = 0; n < 10; n++) {
            check.refused("save(3) again with five parts", UnsupportedOperationException.class, () -> desk.save(3));
        }
        check.same("parts", desk.count(3, 2), 5);
        check.same("written in the fifth", desk.read(3, 5), 15);
    }

    private static void wrongInputs(Check check) {
        for (int t : Edges.NO_TRANSACTION) {
            check.refusedWithoutTrace("save(" + t + ")", IllegalArgumentException.class,
                    Promise05SaveTest::withFiveParts, desk -> desk.save(t));
        }
        check.refusedWithoutTrace("save(2) not open", IllegalStateException.class,
                Promise05SaveTest::withFiveParts, desk -> desk.save(2));
    }
}
