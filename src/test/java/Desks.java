/** Objects in states that several tests begin with. */
final class Desks {
    private Desks() {
    }

    /**
     * Open are 0 (nothing read or written), 1 (five parts, written in each), 2 (stale, two parts; cells 3 and 4
     * are written), 3 (has read every cell) and 4 (has written every cell). Not open are 5 (was done), 6 (was stale
     * with five parts when it was to be done) and 7 (left).
     */
    static CommitDesk busy() {
        CommitDesk desk = new CommitDesk();
        desk.set(0, Long.MIN_VALUE);
        desk.set(31, Long.MAX_VALUE);
        closedOnes(desk);
        desk.begin(0);
        withFiveParts(desk, 1);
        stale(desk, 2);
        desk.begin(3);
        desk.begin(4);
        for (int k = 0; k < 32; k++) {
            desk.read(3, k);
            desk.write(4, k, 400 + k);
        }
        return desk;
    }

    private static void closedOnes(CommitDesk desk) {
        desk.begin(5);
        desk.write(5, 9, 59);
        desk.done(5);
        desk.begin(6);
        desk.read(6, 8);
        while (desk.count(6, 2) < 5) {
            desk.save(6);
            desk.write(6, 8, 68);
        }
        desk.set(8, 1);
        desk.done(6);
        desk.begin(7);
        desk.write(7, 7, 77);
        desk.leave(7);
    }

    private static void withFiveParts(CommitDesk desk, int t) {
        desk.begin(t);
        desk.read(t, 20);
        for (int part = 1; part <= 5; part++) {
            desk.write(t, 10, 100 + part);
            desk.write(t, 10 + part, part);
            if (part < 5) {
                desk.save(t);
            }
        }
    }

    private static void stale(CommitDesk desk, int t) {
        desk.begin(t);
        desk.read(t, 5);
        desk.write(t, 3, 33);
        desk.save(t);
        desk.write(t, 4, 44);
        desk.set(5, 0);
    }
}
