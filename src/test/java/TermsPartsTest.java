/** Terms: "has WRITTEN some, in up to five PARTS one behind the other (at first one)". */
public final class TermsPartsTest {
    public static void main(String[] args) {
        Check check = new Check();
        atFirstOne(check);
        upToFive(check);
        oneBehindTheOther(check);
        everyPartHoldsEveryCell(check);
        check.end();
    }

    private static void atFirstOne(Check check) {
        check.same("parts at first", begun().count(0, 2), 1);
        check.refusedWithoutTrace("back with one part", UnsupportedOperationException.class,
                TermsPartsTest::begun, desk -> desk.back(0));
        check.refusedWithoutTrace("keep with one part", UnsupportedOperationException.class,
                TermsPartsTest::begun, desk -> desk.keep(0));
    }

    private static CommitDesk begun() {
        CommitDesk desk = new CommitDesk();
        desk.begin(0);
        return desk;
    }

    private static void upToFive(Check check) {
        check.same("the fifth part", withFour().save(0), 5);
        check.refusedWithoutTrace("save with five parts", UnsupportedOperationException.class,
                TermsPartsTest::withFive, desk -> desk.save(0));
    }

    private static CommitDesk withFour() {
        CommitDesk desk = begun();
        desk.save(0);
        desk.save(0);
        desk.save(0);
        return desk;
    }

    private static CommitDesk withFive() {
        CommitDesk desk = withFour();
        desk.save(0);
        return desk;
    }

    private static void oneBehindTheOther(Check check) {
        CommitDesk desk = begun();
        desk.write(0, 6, 1);
        for (int part = 2; part <= 5; part++) {
            desk.save(0);
            desk.write(0, 6, part);
        }
        for (int part = 5; part > 1; part--) {
            check.same("read in part " + part, desk.read(0, 6), part);
            desk.back(0);
        }
        check.same("read in part 1", desk.read(0, 6), 1);
    }

    private static void everyPartHoldsEveryCell(Check check) {
        CommitDesk desk = begun();
        for (int part = 1; part <= 5; part++) {
            for (int k = 0; k < 32; k++) {
                desk.write(0, k, 100 * part + k);
            }
            if (part < 5) {
                desk.save(0);
            }
        }
        for (int part = 5; part >= 1; part--) {
            check.same("cells written in part " + part, desk.count(0, 1), 32);
            for (int k = 0; k < 32; k++) {
                check.same("read(0, " + k + ") in part " + part, desk.read(0, k), 100 * part + k);
            }
            if (part > 1) {
                desk.back(0);
            }
        }
    }
}
