import java.util.function.Supplier;

/**
 * Tells all that can be learnt of an object, as a text. Learning changes the object, so each thing is learnt
 * of an object made anew.
 */
final class Probe {
    private static final int CELLS = 32;
    private static final int TRANSACTIONS = 8;

    private final Supplier<CommitDesk> make;
    private final StringBuilder text = new StringBuilder();

    private Probe(Supplier<CommitDesk> make) {
        this.make = make;
    }

    static String of(Supplier<CommitDesk> make) {
        Probe probe = new Probe(make);
        probe.tellTotals(make.get());
        probe.tellCells(make.get());
        for (int t = 0; t < TRANSACTIONS; t++) {
            probe.tellTransaction(t);
        }
        return probe.text.toString();
    }

    private void tellTotals(CommitDesk desk) {
        text.append("all");
        for (int what = 0; what < 3; what++) {
            text.append(' ').append(desk.all(what));
        }
        text.append('\n');
    }

    private void tellCells(CommitDesk desk) {
        for (int k = 0; k < CELLS; k++) {
            text.append(k).append('=').append(desk.cell(k)).append('/').append(desk.changed(k)).append(' ');
        }
        text.append('\n');
    }

    private void tellTransaction(int t) {
        text.append("transaction ").append(t);
        CommitDesk desk = make.get();
        if (!isOpen(desk, t)) {
            text.append(" is not open\n");
            return;
        }
        for (int what = 0; what < 4; what++) {
            text.append(' ').append(desk.count(t, what));
        }
        text.append('\n');
        int parts = desk.count(t, 2);
        for (int taken = 0; taken < parts; taken++) {
            tellSight(t, taken);
        }
        tellReadCells(t);
        tellDone(t);
    }

    private void tellSight(int t, int taken) {
        CommitDesk desk = takenBack(t, taken);
        text.append("  written ").append(desk.count(t, 1)).append(", sees");
        for (int k = 0; k < CELLS; k++) {
            text.append(' ');
            try {
                text.append(desk.read(t, k));
            } catch (UnsupportedOperationException e) {
                text.append("stale");
                desk = takenBack(t, taken);
            }
        }
        text.append('\n');
    }

    private CommitDesk takenBack(int t, int parts) {
        CommitDesk desk = make.get();
        for (int n = 0; n < parts; n++) {
            desk.back(t);
        }
        return desk;
    }

    private void tellReadCells(int t) {
        text.append("  stale if changed:");
        for (int k = 0; k < CELLS; k++) {
            CommitDesk desk = make.get();
            desk.set(k, desk.cell(k));
            text.append(' ').append(desk.count(t, 3));
        }
        text.append('\n');
    }

    private void tellDone(int t) {
        CommitDesk desk = make.get();
        text.append("  done ").append(desk.done(t)).append(", stale then:");
        for (int other = 0; other < TRANSACTIONS; other++) {
            text.append(' ').append(isOpen(desk, other) ? "" + desk.count(other, 3) : "-");
        }
        text.append("\n  ");
        tellTotals(desk);
        tellCells(desk);
    }

    private static boolean isOpen(CommitDesk desk, int t) {
        try {
            desk.count(t, 2);
            return true;
        } catch (IllegalStateException e) {
            return false;
        }
    }
}
