/**
 * An array of disks with rotating parity (RAID level 5) that grows over more disks while it is
 * written and read; power may go at any write to a disk, and one disk may fail.
 */
public final class GrowingArray {
    /** There is none. */
    public static final int NONE = -1;

    private static final int MOST_DISKS = 10;

    // All ten stand from the beginning, so that no later call has to make one.
    private final Disk[] disks;
    private final int rowCount;
    private int diskCount;

    // What the LIVE disks agree on; it changes only when a SUPER has reached all of them, so
    // that what is told while DOWN is what held when the interrupted call began.
    private final Super held;
    private boolean up;
    private int writesTillCut;
    private int rebuiltRows;

    private int writesBegun;
    private int writesMade;
    private int stepsEnded;
    private int powerLosses;

    // Kept and used again by every WRITE and every STEP.
    private final Journal order;
    private final long[] rowValues;

    public GrowingArray(int disks, int rows) {
        this.diskCount = disks >= 3 && disks <= 7 ? disks : 4;
        this.rowCount = rows >= 2 && rows <= 48 ? rows : 16;
        this.held = new Super();
        this.held.tell(1, this.diskCount, this.diskCount, 0);
        this.order = new Journal();
        this.rowValues = new long[MOST_DISKS];
        this.disks = new Disk[MOST_DISKS];
        for (int d = 0; d < MOST_DISKS; d++) {
            Disk made = new Disk(this.rowCount);
            if (d < this.diskCount) {
                made.superSector.copyFrom(this.held);
            }
            this.disks[d] = made;
        }
        this.up = true;
        this.writesTillCut = NONE;
    }

    public boolean write(int a, long v) throws IllegalStateException, IndexOutOfBoundsException {
        refuseIfDown();
        refuseIfNoPlace(a);
        int n = widthOf(a);
        int row = rowIn(n, a);
        int target = diskIn(n, a);
        writesBegun++;
        order.tell(held.sequence, writesBegun, row, target, parityDisk(n, row));
        order.value = v;
        order.parity = parityWith(n, row, target, v);
        carryOutOrder();
        return up;
    }

    public long read(int a) throws IllegalStateException, IndexOutOfBoundsException {
        refuseIfDown();
        refuseIfNoPlace(a);
        return valueOf(a);
    }

    public int add() throws IllegalStateException {
        refuseIfDown();
        if (diskCount >= MOST_DISKS) {
            return NONE;
        }
        if (!spendWrite()) {
            return 0;
        }
        disks[diskCount].takeSuper(held);
        diskCount++;
        return diskCount;
    }

    public int grow() throws IllegalStateException {
        refuseIfDown();
        if (held.m >= diskCount || isReshaped() || rebuildingDisk() != NONE) {
            return NONE;
        }
        setSuper(held.n, diskCount, 0, NONE);
        return up ? held.m : 0;
    }

    public int step() throws IllegalStateException {
        refuseIfDown();
        if (!isReshaped() || rebuildingDisk() != NONE) {
            return NONE;
        }
        gatherRowValues();
        if (isCritical()) {
            writeBackups();
        }
        moveRow();
        if (!up) {
            return 0;
        }
        return isReshaped() ? 1 : 2;
    }

    public boolean fail(int disk) {
        if (!isThere(disk) || diskNotLive() != NONE) {
            return false;
        }
        disks[disk].failed = true;
        return true;
    }

    public boolean replace() {
        int d = diskNotLive();
        if (!up || d == NONE || !disks[d].failed) {
            return false;
        }
        if (!isSpare(d)) {
            disks[d].renew();
            rebuiltRows = 0;
            return true;
        }
        if (!spendWrite()) {
            return false;
        }
        disks[d].renew();
        disks[d].takeSuper(held);
        return true;
    }

    public int rebuild() throws IllegalStateException {
        refuseIfDown();
        int d = rebuildingDisk();
        if (d == NONE) {
            return NONE;
        }
        long due = blockDue(d, rebuiltRows);
        if (!spendWrite()) {
            return 0;
        }
        disks[d].takeBlock(rebuiltRows, due);
        if (rebuiltRows + 1 < rowCount) {
            rebuiltRows++;
            return 1;
        }
        setSuper(held.n, held.m, held.front, d);
        if (!up) {
            return 0;
        }
        rebuiltRows = 0;
        return 2;
    }

    public void cut(int n) {
        writesTillCut = n < 0 ? NONE : n;
    }

    public int open() {
        if (up) {
            return NONE;
        }
        up = true;
        findWhatHolds();
        levelSupers();
        boolean replayed = up && replayJournal();
        boolean moved = up && resumeReshaping();
        if (!moved) {
            setSuper(held.n, held.m, held.front, NONE);
        }
        if (!up) {
            return 0;
        }
        return 1 + (replayed ? 2 : 0) + (moved ? 4 : 0);
    }

    public int place(int a, int what) {
        if (!isPlace(a)) {
            return NONE;
        }
        int n = widthOf(a);
        switch (what) {
            case 0:
                return diskIn(n, a);
            case 1:
                return rowIn(n, a);
            case 2:
                return parityDisk(n, rowIn(n, a));
            case 3:
                return isMoved(a) ? 1 : 0;
            default:
                return NONE;
        }
    }

    public int disk(int disk, int what) {
        if (!isThere(disk)) {
            return NONE;
        }
        Disk asked = disks[disk];
        switch (what) {
            case 0:
                return asked.condition();
            case 1:
                return isSpare(disk) ? 1 : 0;
            case 2:
                return asked.writesTaken;
            case 3:
                return asked.failed ? NONE : asked.superSector.sequence;
            case 4:
                return asked.failed ? NONE : asked.journal.number;
            case 5:
                return asked.failed ? NONE : asked.backup.isBlank() ? 0 : 1;
            default:
                return NONE;
        }
    }

    public int count(int what) {
        switch (what) {
            case 0:
                return diskCount;
            case 1:
                return held.n;
            case 2:
                return held.m;
            case 3:
                return held.front;
            case 4:
                return placeCount();
            case 5:
                return up ? 1 : 0;
            case 6:
                return isReshaped() ? 1 : 0;
            case 7:
                return diskNotLive();
            case 8:
                return rebuiltRows;
            case 9:
                return held.sequence;
            case 10:
                return writesBegun;
            case 11:
                return writesMade;
            case 12:
                return stepsEnded;
            case 13:
                return powerLosses;
            case 14:
                return rowCount;
            default:
                return NONE;
        }
    }

    public int astray() {
        if (!up || isArrayDegraded()) {
            return NONE;
        }
        int found = 0;
        for (int row = 0; row < rowCount; row++) {
            if (exclusiveOr(widthOfRow(row), row, NONE) != 0) {
                found++;
            }
        }
        return found;
    }

    public long sum() throws IllegalStateException {
        refuseIfDown();
        long total = 0;
        int places = placeCount();
        for (int a = 0; a < places; a++) {
            total = 31 * total + valueOf(a);
        }
        return total;
    }

    // What is refused

    private void refuseIfDown() {
        if (!up) {
            throw new IllegalStateException("the array is down");
        }
    }

    private void refuseIfNoPlace(int a) {
        if (!isPlace(a)) {
            throw new IndexOutOfBoundsException("there is no such place");
        }
    }

    // Geometry

    private static int parityDisk(int n, int row) {
        return n < 1 || row < 0 ? 0 : n - 1 - row % n;
    }

    private static int rowIn(int n, int a) {
        return n < 2 ? 0 : a / (n - 1);
    }

    private static int diskIn(int n, int a) {
        return n < 2 ? 0 : (parityDisk(n, rowIn(n, a)) + 1 + a % (n - 1)) % n;
    }

    private int placeCount() {
        return rowCount * (held.n - 1);
    }

    private boolean isPlace(int a) {
        return a >= 0 && a < placeCount();
    }

    private boolean isReshaped() {
        return held.m > held.n;
    }

    private boolean isMoved(int a) {
        return a < held.front * (held.m - 1);
    }

    private int widthOf(int a) {
        return isMoved(a) ? held.m : held.n;
    }

    private int widthOfRow(int row) {
        return row < held.front ? held.m : held.n;
    }

    // Which disk is what

    private boolean isThere(int d) {
        return d >= 0 && d < diskCount;
    }

    private boolean isSpare(int d) {
        return d >= held.m;
    }

    private boolean isLive(int d) {
        return isThere(d) && disks[d].isLive();
    }

    /** At most one disk is not LIVE at a time, so the first one is the only one. */
    private int diskNotLive() {
        for (int d = 0; d < diskCount; d++) {
            if (!disks[d].isLive()) {
                return d;
            }
        }
        return NONE;
    }

    private int rebuildingDisk() {
        int d = diskNotLive();
        return d != NONE && disks[d].isRebuilding() ? d : NONE;
    }

    private boolean isRebuilt(int d, int row) {
        return isThere(d) && disks[d].isRebuilding() && row < rebuiltRows;
    }

    private boolean isArrayDegraded() {
        int d = diskNotLive();
        return d != NONE && !isSpare(d);
    }

    // What blocks have

    /** Of the row's blocks on disks 0 .. n - 1, but for one disk (NONE: for none). */
    private long exclusiveOr(int n, int row, int leftOut) {
        long result = 0;
        for (int d = 0; d < n && d < MOST_DISKS; d++) {
            if (d != leftOut) {
                result ^= disks[d].blockAt(row);
            }
        }
        return result;
    }

    private long blockOf(int n, int row, int d) {
        return isLive(d) ? disks[d].blockAt(row) : exclusiveOr(n, row, d);
    }

    private long valueOf(int a) {
        int n = widthOf(a);
        return blockOf(n, rowIn(n, a), diskIn(n, a));
    }

    private long parityWith(int n, int row, int target, long v) {
        int parity = parityDisk(n, row);
        long result = v;
        for (int d = 0; d < n; d++) {
            if (d != parity && d != target) {
                result ^= blockOf(n, row, d);
            }
        }
        return result;
    }

    private long blockDue(int d, int row) {
        int n = widthOfRow(row);
        return d < n ? exclusiveOr(n, row, d) : 0;
    }

    // Writes to disks

    /** Every write to a disk asks here first; once the power has gone all are refused. */
    private boolean spendWrite() {
        if (!up) {
            return false;
        }
        if (writesTillCut == 0) {
            up = false;
            powerLosses++;
            writesTillCut = NONE;
            return false;
        }
        if (writesTillCut > 0) {
            writesTillCut--;
        }
        writesMade++;
        return true;
    }

    private void writeBlock(int d, int row, long v) {
        if ((isLive(d) || isRebuilt(d, row)) && spendWrite()) {
            disks[d].takeBlock(row, v);
        }
    }

    /** The disk that is joining (NONE: none is) gets its SUPER in its turn among the LIVE. */
    private void setSuper(int n, int m, int front, int joining) {
        int sequence = held.sequence + 1;
        for (int d = 0; d < diskCount; d++) {
            if ((isLive(d) || d == joining) && spendWrite()) {
                disks[d].takeSuper(sequence, n, m, front);
            }
        }
        if (up) {
            held.tell(sequence, n, m, front);
        }
    }

    private void carryOutOrder() {
        int told = 0;
        for (int d = 0; d < diskCount && told < 2; d++) {
            if (isLive(d)) {
                told++;
                if (spendWrite()) {
                    disks[d].takeJournal(order);
                }
            }
        }
        writeBlock(order.dataDisk, order.row, order.value);
        writeBlock(order.parityDisk, order.row, order.parity);
    }

    // Reshaping

    /** Whether moving ROW FRONT overwrites blocks that its own values are read from. */
    private boolean isCritical() {
        return held.front * (held.m - held.n) < held.n - 1;
    }

    private void gatherRowValues() {
        int first = held.front * (held.m - 1);
        for (int k = 0; k < held.m - 1 && k < rowValues.length; k++) {
            rowValues[k] = isPlace(first + k) ? valueOf(first + k) : 0;
        }
    }

    private void writeBackups() {
        for (int d = 0; d < diskCount; d++) {
            if (isLive(d) && spendWrite()) {
                disks[d].takeBackup(held.sequence, rowValues);
            }
        }
    }

    private void moveRow() {
        int row = held.front;
        int m = held.m;
        writeMovedRow(row, m);
        if (row + 1 < rowCount) {
            setSuper(held.n, m, row + 1, NONE);
        } else {
            setSuper(m, m, 0, NONE);
        }
        if (up) {
            stepsEnded++;
        }
    }

    private void writeMovedRow(int row, int m) {
        int parityDisk = parityDisk(m, row);
        long parity = 0;
        for (int k = 0; k < m - 1 && k < rowValues.length; k++) {
            parity ^= rowValues[k];
        }
        for (int d = 0; d < m; d++) {
            int index = d > parityDisk ? d - parityDisk - 1 : d - parityDisk - 1 + m;
            boolean isData = d != parityDisk && index >= 0 && index < rowValues.length;
            writeBlock(d, row, isData ? rowValues[index] : parity);
        }
    }

    // Opening

    private void findWhatHolds() {
        int greatest = 0;
        for (int d = 0; d < diskCount; d++) {
            Super told = disks[d].superSector;
            if (isLive(d) && told.sequence > greatest) {
                greatest = told.sequence;
                held.copyFrom(told);
            }
        }
        rebuiltRows = 0;
    }

    private void levelSupers() {
        for (int d = 0; d < diskCount; d++) {
            boolean differs = disks[d].superSector.sequence != held.sequence;
            if (isLive(d) && differs && spendWrite()) {
                disks[d].takeSuper(held);
            }
        }
    }

    private boolean replayJournal() {
        int latest = 0;
        for (int d = 0; d < diskCount; d++) {
            Journal told = disks[d].journal;
            if (isLive(d) && told.sequence == held.sequence && told.number > latest) {
                latest = told.number;
                order.copyFrom(told);
            }
        }
        if (latest == 0) {
            return false;
        }
        carryOutOrder();
        return true;
    }

    private boolean resumeReshaping() {
        if (!isReshaped()) {
            return false;
        }
        if (recallBackup()) {
            writeBackups();
        } else if (isCritical()) {
            return false;
        } else {
            gatherRowValues();
        }
        moveRow();
        return true;
    }

    private boolean recallBackup() {
        for (int d = 0; d < diskCount; d++) {
            Backup told = disks[d].backup;
            if (isLive(d) && told.sequence == held.sequence) {
                told.copyTo(rowValues);
                return true;
            }
        }
        return false;
    }

    /** The sector that tells what holds; blank with SEQUENCE 0. */
    private static final class Super {
        int sequence;
        int n;
        int m;
        int front;

        void tell(int newSequence, int newN, int newM, int newFront) {
            sequence = newSequence;
            n = newN;
            m = newM;
            front = newFront;
        }

        void copyFrom(Super other) {
            tell(other.sequence, other.n, other.m, other.front);
        }
    }

    /** The sector that tells a WRITE; blank with SEQUENCE and number (its COUNT) 0. */
    private static final class Journal {
        int sequence;
        int number;
        int row;
        int dataDisk;
        int parityDisk;
        long value;
        long parity;

        void tell(int newSequence, int newNumber, int newRow, int newDataDisk, int newParityDisk) {
            sequence = newSequence;
            number = newNumber;
            row = newRow;
            dataDisk = newDataDisk;
            parityDisk = newParityDisk;
        }

        void copyFrom(Journal other) {
            tell(other.sequence, other.number, other.row, other.dataDisk, other.parityDisk);
            value = other.value;
            parity = other.parity;
        }

        void erase() {
            tell(0, 0, 0, 0, 0);
            value = 0;
            parity = 0;
        }
    }

    /** The sector that keeps the values of a CRITICAL row; blank with SEQUENCE 0. */
    private static final class Backup {
        int sequence;
        final long[] values = new long[MOST_DISKS];

        boolean isBlank() {
            return sequence == 0;
        }

        void tell(int newSequence, long[] newValues) {
            sequence = newSequence;
            for (int k = 0; k < values.length && k < newValues.length; k++) {
                values[k] = newValues[k];
            }
        }

        void copyTo(long[] target) {
            for (int k = 0; k < values.length && k < target.length; k++) {
                target[k] = values[k];
            }
        }
    }

    /** One disk: its blocks and sectors, and how often it was written to. */
    private static final class Disk {
        final long[] blocks;
        final Super superSector = new Super();
        final Journal journal = new Journal();
        final Backup backup = new Backup();
        boolean failed;
        int writesTaken;

        Disk(int rows) {
            blocks = new long[rows < 0 ? 0 : rows];
        }

        boolean isLive() {
            return !failed && superSector.sequence != 0;
        }

        boolean isRebuilding() {
            return !failed && superSector.sequence == 0;
        }

        int condition() {
            if (failed) {
                return 1;
            }
            return isRebuilding() ? 2 : 0;
        }

        long blockAt(int row) {
            return row >= 0 && row < blocks.length ? blocks[row] : 0;
        }

        void takeBlock(int row, long v) {
            if (row >= 0 && row < blocks.length) {
                blocks[row] = v;
                writesTaken++;
            }
        }

        void takeSuper(int sequence, int n, int m, int front) {
            superSector.tell(sequence, n, m, front);
            writesTaken++;
        }

        void takeSuper(Super told) {
            superSector.copyFrom(told);
            writesTaken++;
        }

        void takeJournal(Journal told) {
            journal.copyFrom(told);
            writesTaken++;
        }

        void takeBackup(int sequence, long[] values) {
            backup.tell(sequence, values);
            writesTaken++;
        }

        /** A new disk comes in its stead. */
        void renew() {
            for (int row = 0; row < blocks.length; row++) {
                blocks[row] = 0;
            }
            superSector.tell(0, 0, 0, 0);
            journal.erase();
            backup.sequence = 0;
            failed = false;
            writesTaken = 0;
        }
    }
}
