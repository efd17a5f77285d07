/** Promise 5: save. */
public final class Promise05SaveTest {
    public static void main(String[] args) {
        Check check = new Check();
        tellsHowManyPartsThereAre(check);
        aNewPartIsEmpty(check);
        staleOnesMaySave(check);
        wrongInputs(check);
        check.end();
    }

    private static void tellsHowManyPartsThereAre(Check check) {
        CommitDesk desk = new CommitDesk();
        desk.begin(7);
        desk.begin(6);
        for (int parts = 2; parts <= 5; parts++) {
            check.same("save(7)", desk.save(7), parts);
            check.same("count(7, 2)", desk.count(7, 2), parts);
        }
        check.same("parts of another", desk.count(6, 2), 1);
        desk.back(7);
        check.same("save(7) after back", desk.save(7), 5);
    }

    private static void aNewPartIsEmpty(Check check) {
        CommitDesk desk = new CommitDesk();
        desk.begin(0);
        desk.save(0);
        desk.write(0, 1, 7);
        desk.write(0, 31, 8);
        desk.back(0);
        desk.save(0);
        check.same("cells written in a part begun again", desk.count(0, 1), 0);
        desk.write(0, 1, 9);
        desk.save(0);
        check.same("read across parts", desk.read(0, 1), 9);
        desk.keep(0);
        desk.keep(0);
        check.same("cells written when all is kept", desk.count(0, 1), 1);
    }

    private static void staleOnesMaySave(Check check) {
        CommitDesk desk = new CommitDesk();
        desk.begin(0);
        desk.read(0, 1);
        desk.set(1, 1);
        check.same("save of a stale one", desk.save(0), 2);
        check.same("open", desk.all(0), 1);
    }

    private static CommitDesk withFiveParts() {
        CommitDesk desk = new CommitDesk();
        desk.begin(3);
        for (int part = 1; part < 5; part++) {
            desk.write(3, part, 10 + part);
            desk.save(3);
        }
        desk.write(3, 5, 15);
        return desk;
    }

    private static void wrongInputs(Check check) {
        int[] none = {-1, 8, Integer.MIN_VALUE, Integer.MAX_VALUE};
        for (int t : none) {
            check.refusedWithoutTrace("save(" + t + ")", IllegalArgumentException.class,
                    Promise05SaveTest::withFiveParts, desk -> desk.save(t));
        }
        check.refusedWithoutTrace("save(2) not open", IllegalStateException.class,
                Promise05SaveTest::withFiveParts, desk -> desk.save(2));
        check.refusedWithoutTrace("save(3) with five parts", UnsupportedOperationException.class,
                Promise05SaveTest::withFiveParts, desk -> desk.save(3));
    }
}
