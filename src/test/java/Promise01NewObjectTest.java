/** Promise 1: what a new object answers. */
public final class Promise01NewObjectTest {
    public static void main(String[] args) {
        Check check = new Check();
        CommitDesk desk = new CommitDesk();
        for (int k = 0; k < 32; k++) {
            check.same("cell(" + k + ")", desk.cell(k), 0);
            check.same("changed(" + k + ")", desk.changed(k), 0);
        }
        for (int t = 0; t < 8; t++) {
            int one = t;
            check.refused("leave(" + t + ")", IllegalStateException.class, () -> desk.leave(one));
        }
        for (int what = 0; what < 3; what++) {
            check.same("all(" + what + ")", desk.all(what), 0);
        }
        objectsShareNothing(check);
        check.end();
    }

    private static void objectsShareNothing(Check check) {
        CommitDesk used = new CommitDesk();
        used.set(3, 9);
        used.begin(2);
        used.done(2);
        used.begin(2);
        CommitDesk fresh = new CommitDesk();
        check.same("cell of another object", fresh.cell(3), 0);
        check.same("changed of another object", fresh.changed(3), 0);
        check.same("all(0) of another object", fresh.all(0), 0);
        check.same("all(1) of another object", fresh.all(1), 0);
    }
}
