/** Tells all that can be learnt of an object, as a text; it uses the object up. */
final class Probe {
    private static final int CELLS = 32;
    private static final int TRANSACTIONS = 8;

    private final CommitDesk desk;
    private final StringBuilder text = new StringBuilder();

    private Probe(CommitDesk desk) {
        this.desk = desk;
    }

    /** Needs some 140 calls and 50 more for each open transaction, of the 512 that an object is good for. */
    static String of(CommitDesk desk) {
        Probe probe = new Probe(desk);
        probe.tellTotals();
        probe.tellCells();
        for (int t = 0; t < TRANSACTIONS; t++) {
            probe.tellTransaction(t);
        }
        probe.tellTotals();
        return probe.text.toString();
    }

    private void tellTotals() {
        text.append("all ").append(desk.all(0)).append(' ').append(desk.all(1)).append(' ').append(desk.all(2))
                .append('\n');
    }

    private void tellCells() {
        for (int k = 0; k < CELLS; k++) {
            text.append(k).append('=').append(desk.cell(k)).append('/').append(desk.changed(k)).append(' ');
        }
        text.append('\n');
    }

    private void tellTransaction(int t) {
        text.append("transaction ").append(t);
        try {
            for (int what = 0; what < 4; what++) {
                text.append(' ').append(desk.count(t, what));
            }
        } catch (IllegalStateException e) {
            text.append(" is not open\n");
            return;
        }
        while (desk.count(t, 2) > 1) {
            desk.back(t);
            text.append(", then ").append(desk.count(t, 1)).append(" written");
        }
        tellWhatItSees(t);
        text.append('\n');
    }

    private void tellWhatItSees(int t) {
        text.append(", sees");
        try {
            for (int k = 0; k < CELLS; k++) {
                text.append(' ').append(desk.read(t, k)).append('/').append(desk.count(t, 0));
            }
            text.append(" done ").append(desk.done(t));
        } catch (UnsupportedOperationException e) {
            text.append(" stale");
        }
    }
}
