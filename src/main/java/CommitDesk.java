/** Transactions over shared cells; see README.md. */
public final class CommitDesk {
    private static final int CELLS = 32;
    private static final int TRANSACTIONS = 8;
    private static final int MOST_PARTS = 5;

    private final long[] numbers = new long[CELLS];
    private final int[] changes = new int[CELLS];
    private final Transaction[] transactions = new Transaction[TRANSACTIONS];
    private int doneTotal = 0;
    private int staleTotal = 0;

    public CommitDesk() {
        for (int t = 0; t < TRANSACTIONS; t++) {
            transactions[t] = new Transaction();
        }
    }

    public void begin(int t) throws IllegalArgumentException, IllegalStateException {
        Transaction one = transactionOf(t);
        if (one.isOpen()) {
            throw new IllegalStateException("the transaction is open");
        }
        one.start();
    }

    public long read(int t, int k) throws IllegalArgumentException, IndexOutOfBoundsException,
            IllegalStateException, UnsupportedOperationException {
        Transaction one = openTransactionAt(t, k);
        int part = one.lastPartWith(k);
        if (part >= 0) {
            return one.writtenIn(part, k);
        }
        if (one.isStale()) {
            endStale(one);
            throw new UnsupportedOperationException("the transaction was stale");
        }
        one.markRead(k);
        return numbers[k];
    }

    public void write(int t, int k, long v) throws IllegalArgumentException, IndexOutOfBoundsException,
            IllegalStateException {
        openTransactionAt(t, k).putInLastPart(k, v);
    }

    public int save(int t) throws IllegalArgumentException, IllegalStateException,
            UnsupportedOperationException {
        Transaction one = openTransactionOf(t);
        if (one.partCount() >= MOST_PARTS) {
            throw new UnsupportedOperationException("no further part");
        }
        one.addPart();
        return one.partCount();
    }

    public void back(int t) throws IllegalArgumentException, IllegalStateException,
            UnsupportedOperationException {
        transactionWithSeveralParts(t).dropLastPart();
    }

    public void keep(int t) throws IllegalArgumentException, IllegalStateException,
            UnsupportedOperationException {
        transactionWithSeveralParts(t).mergeLastPart();
    }

    public boolean done(int t) throws IllegalArgumentException, IllegalStateException {
        Transaction one = openTransactionOf(t);
        if (one.isStale()) {
            endStale(one);
            return false;
        }
        // Closed before its cells change, so that its own writes do not count against it.
        one.close();
        for (int k = 0; k < CELLS; k++) {
            int part = one.lastPartWith(k);
            if (part >= 0) {
                change(k, one.writtenIn(part, k));
            }
        }
        doneTotal++;
        return true;
    }

    public void leave(int t) throws IllegalArgumentException, IllegalStateException {
        openTransactionOf(t).close();
    }

    public void set(int k, long v) throws IndexOutOfBoundsException {
        requireCell(k);
        change(k, v);
    }

    public long cell(int k) throws IndexOutOfBoundsException {
        requireCell(k);
        return numbers[k];
    }

    public int changed(int k) throws IndexOutOfBoundsException {
        requireCell(k);
        return changes[k];
    }

    public int count(int t, int what) throws IllegalArgumentException, IllegalStateException {
        if (what < 0 || what > 3) {
            throw new IllegalArgumentException("no such what");
        }
        Transaction one = openTransactionOf(t);
        switch (what) {
            case 0:
                return one.readCount();
            case 1:
                return one.writtenCount();
            case 2:
                return one.partCount();
            default:
                return one.isStale() ? 1 : 0;
        }
    }

    public int all(int what) throws IllegalArgumentException {
        switch (what) {
            case 0:
                return openTotal();
            case 1:
                return doneTotal;
            case 2:
                return staleTotal;
            default:
                throw new IllegalArgumentException("no such what");
        }
    }

    private Transaction transactionOf(int t) {
        if (t < 0 || t >= TRANSACTIONS) {
            throw new IllegalArgumentException("no such transaction");
        }
        return transactions[t];
    }

    private void requireCell(int k) {
        if (k < 0 || k >= CELLS) {
            throw new IndexOutOfBoundsException("no such cell");
        }
    }

    private Transaction openTransactionOf(int t) {
        Transaction one = transactionOf(t);
        if (!one.isOpen()) {
            throw new IllegalStateException("the transaction is not open");
        }
        return one;
    }

    // The document's order: the transaction's number, the cell's, then whether it is open.
    private Transaction openTransactionAt(int t, int k) {
        transactionOf(t);
        requireCell(k);
        return openTransactionOf(t);
    }

    private Transaction transactionWithSeveralParts(int t) {
        Transaction one = openTransactionOf(t);
        if (one.partCount() <= 1) {
            throw new UnsupportedOperationException("there is one part");
        }
        return one;
    }

    private void endStale(Transaction one) {
        one.close();
        staleTotal++;
    }

    private void change(int k, long v) {
        numbers[k] = v;
        changes[k]++;
        for (int t = 0; t < TRANSACTIONS; t++) {
            transactions[t].noteChange(k);
        }
    }

    private int openTotal() {
        int total = 0;
        for (int t = 0; t < TRANSACTIONS; t++) {
            if (transactions[t].isOpen()) {
                total++;
            }
        }
        return total;
    }

    /** What one transaction has read and written; sets of cells are ints with one bit for each cell. */
    private static final class Transaction {
        private boolean open = false;
        private boolean stale = false;
        private int readCells = 0;
        private int parts = 1;
        private final int[] writtenCells = new int[MOST_PARTS];
        private final long[][] values = new long[MOST_PARTS][CELLS];

        boolean isOpen() {
            return open;
        }

        boolean isStale() {
            return stale;
        }

        int partCount() {
            return parts;
        }

        int readCount() {
            return Integer.bitCount(readCells);
        }

        int writtenCount() {
            int cells = 0;
            for (int p = 0; p < parts; p++) {
                cells |= writtenCells[p];
            }
            return Integer.bitCount(cells);
        }

        void start() {
            open = true;
            stale = false;
            readCells = 0;
            parts = 1;
            writtenCells[0] = 0;
        }

        void close() {
            open = false;
        }

        void markRead(int k) {
            readCells |= 1 << k;
        }

        // Kept as a mark and not found by comparing numbers: a cell may have its old number again.
        void noteChange(int k) {
            if (open && holds(readCells, k)) {
                stale = true;
            }
        }

        /** The last part in which the cell was written, or -1. */
        int lastPartWith(int k) {
            for (int p = parts - 1; p >= 0; p--) {
                if (holds(writtenCells[p], k)) {
                    return p;
                }
            }
            return -1;
        }

        long writtenIn(int part, int k) {
            return values[part][k];
        }

        void putInLastPart(int k, long v) {
            putInPart(parts - 1, k, v);
        }

        void addPart() {
            // A part that was taken back left its cells in the row.
            writtenCells[parts] = 0;
            parts++;
        }

        void dropLastPart() {
            parts--;
        }

        void mergeLastPart() {
            int last = parts - 1;
            for (int k = 0; k < CELLS; k++) {
                if (holds(writtenCells[last], k)) {
                    putInPart(last - 1, k, values[last][k]);
                }
            }
            dropLastPart();
        }

        private void putInPart(int part, int k, long v) {
            writtenCells[part] |= 1 << k;
            values[part][k] = v;
        }

        private static boolean holds(int cells, int k) {
            return (cells >> k & 1) == 1;
        }
    }
}
