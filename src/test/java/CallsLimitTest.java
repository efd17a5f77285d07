/** "An object is used for at most 512 calls after it has been made": up to the last of them the answers are due. */
public final class CallsLimitTest {
    public static void main(String[] args) {
        Check check = new Check();
        mostChanges(check);
        mostDone(check);
        mostStaleByDone(check);
        mostStaleByRead(check);
        mostParts(check);
        check.end();
    }

    private static void mostChanges(Check check) {
        CommitDesk desk = new CommitDesk();
        for (int n = 1; n <= 510; n++) {
            desk.set(31, n);
        }
        check.same("cell(31), call 511", desk.cell(31), 510);
        check.same("changed(31), call 512", desk.changed(31), 510);
    }

    private static void mostDone(Check check) {
        CommitDesk desk = new CommitDesk();
        for (int n = 1; n <= 255; n++) {
            desk.begin(n % 8);
            desk.done(n % 8);
        }
        check.same("all(0), call 511", desk.all(0), 0);
        check.same("all(1), call 512", desk.all(1), 255);
    }

    private static void mostStaleByDone(Check check) {
        CommitDesk desk = new CommitDesk();
        for (int n = 1; n <= 127; n++) {
            desk.begin(0);
            desk.read(0, 0);
            desk.set(0, n);
            check.same("done when stale", desk.done(0), false);
        }
        check.same("all(2)", desk.all(2), 127);
        check.same("all(1)", desk.all(1), 0);
        check.same("changed(0)", desk.changed(0), 127);
        check.same("cell(0), call 512", desk.cell(0), 127);
    }

    private static void mostStaleByRead(Check check) {
        CommitDesk desk = new CommitDesk();
        for (int n = 1; n <= 127; n++) {
            desk.begin(7);
            desk.read(7, 31);
            desk.set(31, 0);
            check.refused("read when stale", UnsupportedOperationException.class, () -> desk.read(7, 0));
        }
        check.same("all(2)", desk.all(2), 127);
        check.same("all(0)", desk.all(0), 0);
        check.same("changed(31)", desk.changed(31), 127);
    }

    private static void mostParts(Check check) {
        CommitDesk desk = new CommitDesk();
        desk.begin(0);
        for (int n = 1; n <= 85; n++) {
            check.same("save", desk.save(0), 2);
            desk.write(0, 1, n);
            desk.keep(0);
            check.same("save once more", desk.save(0), 2);
            desk.write(0, 1, -n);
            desk.back(0);
        }
        check.same("read, call 512", desk.read(0, 1), 85);
    }
}
