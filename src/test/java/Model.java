import java.util.ArrayList;
import java.util.Arrays;
import java.util.List;
import java.util.function.Consumer;

/**
 * The document once more, written another way than the class: a call lists its writes to disks
 * first, and then they are made one by one till the power goes.
 */
final class Model {
    private record Super(int sequence, int n, int m, int front) {
    }

    private record Journal(int sequence, int count, int row, int dataDisk, int parityDisk, long v, long parity) {
    }

    private record Backup(int sequence, long[] values) {
    }

    private static final class Disk {
        long[] blocks;
        Super superSector;
        Journal journal;
        Backup backup;
        boolean failed;
        int writes;

        boolean live() {
            return !failed && superSector != null;
        }
    }

    private record Write(Disk disk, Consumer<Disk> act) {
    }

    private final List<Disk> disks = new ArrayList<>();
    private final int rows;
    private Super holds;
    private boolean up = true;
    private int left = -1;
    private int rebuilt;
    private int begun;
    private int writes;
    private int steps;
    private int losses;

    Model(int disks, int rows) {
        int n = disks < 3 || disks > 7 ? 4 : disks;
        this.rows = rows < 2 || rows > 48 ? 16 : rows;
        holds = new Super(1, n, n, 0);
        for (int d = 0; d < n; d++) {
            this.disks.add(fresh());
            this.disks.get(d).superSector = holds;
        }
    }

    private Disk fresh() {
        Disk disk = new Disk();
        disk.blocks = new long[rows];
        return disk;
    }

    /** Whether all of them were made. */
    private boolean make(List<Write> list) {
        for (Write w : list) {
            if (left == 0) {
                up = false;
                left = -1;
                losses++;
                return false;
            }
            left = Math.max(-1, left - 1);
            writes++;
            w.disk().writes++;
            w.act().accept(w.disk());
        }
        return true;
    }

    private List<Disk> live() {
        return disks.stream().filter(Disk::live).toList();
    }

    private int notLive() {
        for (int d = 0; d < disks.size(); d++) {
            if (!disks.get(d).live()) {
                return d;
            }
        }
        return -1;
    }

    private boolean rebuilding() {
        return notLive() >= 0 && !disks.get(notLive()).failed;
    }

    private boolean reshaped() {
        return holds.m() != holds.n();
    }

    /** The disks of a row, its parity's first, then those of its data. */
    private static int[] disksOf(int n, int row) {
        int[] found = new int[n];
        for (int k = 0; k < n; k++) {
            found[k] = (n - 1 - row % n + k) % n;
        }
        return found;
    }

    private int by(int a) {
        return a < holds.front() * (holds.m() - 1) ? holds.m() : holds.n();
    }

    private int places() {
        return rows * (holds.n() - 1);
    }

    private long[] dataOf(int n, int row) {
        int[] order = disksOf(n, row);
        long[] found = new long[n];
        int out = -1;
        long all = 0;
        for (int k = 0; k < n; k++) {
            if (disks.get(order[k]).live()) {
                found[k] = disks.get(order[k]).blocks[row];
                all ^= found[k];
            } else {
                out = k;
            }
        }
        if (out >= 0) {
            found[out] = all;
        }
        return Arrays.copyOfRange(found, 1, n);
    }

    private static long xor(long[] values) {
        return Arrays.stream(values).reduce(0, (p, q) -> p ^ q);
    }

    private void need(boolean place) {
        if (!up) {
            throw new IllegalStateException();
        }
        if (!place) {
            throw new IndexOutOfBoundsException();
        }
    }

    private boolean isPlace(int a) {
        return a >= 0 && a < places();
    }

    private void addBlock(List<Write> list, int d, int row, long v) {
        Disk disk = disks.get(d);
        if (disk.live() || !disk.failed && row < rebuilt) {
            list.add(new Write(disk, x -> x.blocks[row] = v));
        }
    }

    private List<Write> writesOf(Journal j) {
        List<Write> list = new ArrayList<>();
        for (Disk disk : live().subList(0, 2)) {
            list.add(new Write(disk, x -> x.journal = j));
        }
        addBlock(list, j.dataDisk(), j.row(), j.v());
        addBlock(list, j.parityDisk(), j.row(), j.parity());
        return list;
    }

    private List<Write> supers(Super s, int joining) {
        List<Write> list = new ArrayList<>();
        for (int d = 0; d < disks.size(); d++) {
            if (disks.get(d).live() || d == joining) {
                list.add(new Write(disks.get(d), x -> x.superSector = s));
            }
        }
        return list;
    }

    private List<Write> backups(Backup b) {
        List<Write> list = new ArrayList<>();
        for (Disk disk : live()) {
            list.add(new Write(disk, x -> x.backup = b));
        }
        return list;
    }

    private boolean critical() {
        return holds.front() * (holds.m() - holds.n()) < holds.n() - 1;
    }

    private long[] valuesOfFront() {
        long[] values = new long[holds.m() - 1];
        for (int k = 0; k < values.length; k++) {
            int a = holds.front() * values.length + k;
            values[k] = isPlace(a) ? dataOf(holds.n(), a / (holds.n() - 1))[a % (holds.n() - 1)] : 0;
        }
        return values;
    }

    private boolean move(List<Write> ahead, long[] values) {
        int m = holds.m();
        int row = holds.front();
        long[] blocks = new long[m];
        int[] order = disksOf(m, row);
        blocks[order[0]] = xor(values);
        for (int k = 1; k < m; k++) {
            blocks[order[k]] = values[k - 1];
        }
        List<Write> list = new ArrayList<>(ahead);
        for (int d = 0; d < m; d++) {
            addBlock(list, d, row, blocks[d]);
        }
        int next = holds.sequence() + 1;
        Super s = row + 1 == rows ? new Super(next, m, m, 0) : new Super(next, holds.n(), m, row + 1);
        list.addAll(supers(s, -1));
        if (!make(list)) {
            return false;
        }
        holds = s;
        steps++;
        return true;
    }

    boolean write(int a, long v) {
        need(isPlace(a));
        int n = by(a);
        int row = a / (n - 1);
        int k = a % (n - 1);
        int[] order = disksOf(n, row);
        long[] data = dataOf(n, row);
        data[k] = v;
        begun++;
        return make(writesOf(new Journal(holds.sequence(), begun, row, order[k + 1], order[0], v, xor(data))));
    }

    long read(int a) {
        need(isPlace(a));
        int n = by(a);
        return dataOf(n, a / (n - 1))[a % (n - 1)];
    }

    int add() {
        need(true);
        if (disks.size() == 10) {
            return -1;
        }
        Disk disk = fresh();
        Super s = holds;
        if (!make(List.of(new Write(disk, x -> x.superSector = s)))) {
            return 0;
        }
        disks.add(disk);
        return disks.size();
    }

    int grow() {
        need(true);
        if (reshaped() || disks.size() == holds.n() || rebuilding()) {
            return -1;
        }
        Super s = new Super(holds.sequence() + 1, holds.n(), disks.size(), 0);
        if (!make(supers(s, -1))) {
            return 0;
        }
        holds = s;
        return s.m();
    }

    int step() {
        need(true);
        if (!reshaped() || rebuilding()) {
            return -1;
        }
        long[] values = valuesOfFront();
        if (!move(critical() ? backups(new Backup(holds.sequence(), values)) : List.of(), values)) {
            return 0;
        }
        return reshaped() ? 1 : 2;
    }

    boolean fail(int d) {
        if (d < 0 || d >= disks.size() || notLive() >= 0) {
            return false;
        }
        disks.get(d).failed = true;
        return true;
    }

    boolean replace() {
        int d = notLive();
        if (!up || d < 0 || !disks.get(d).failed) {
            return false;
        }
        Disk disk = fresh();
        Super s = holds;
        if (d >= s.m() && !make(List.of(new Write(disk, x -> x.superSector = s)))) {
            return false;
        }
        disks.set(d, disk);
        rebuilt = 0;
        return true;
    }

    int rebuild() {
        need(true);
        if (!rebuilding()) {
            return -1;
        }
        int d = notLive();
        int row = rebuilt;
        int n = row < holds.front() ? holds.m() : holds.n();
        long[] data = dataOf(n, row);
        int[] order = disksOf(n, row);
        long due = 0;
        for (int k = 0; k < n; k++) {
            due = order[k] != d ? due : k == 0 ? xor(data) : data[k - 1];
        }
        long v = due;
        List<Write> list = new ArrayList<>();
        list.add(new Write(disks.get(d), x -> x.blocks[row] = v));
        Super s = new Super(holds.sequence() + 1, holds.n(), holds.m(), holds.front());
        if (row + 1 == rows) {
            list.addAll(supers(s, d));
        }
        if (!make(list)) {
            return 0;
        }
        rebuilt = (row + 1) % rows;
        holds = rebuilt == 0 ? s : holds;
        return rebuilt == 0 ? 2 : 1;
    }

    void cut(int n) {
        left = Math.max(-1, n);
    }

    int open() {
        if (up) {
            return -1;
        }
        up = true;
        rebuilt = 0;
        holds = live().stream().map(x -> x.superSector).reduce((p, q) -> q.sequence() > p.sequence() ? q : p).get();
        int done = 1;
        Super s = holds;
        List<Write> list = new ArrayList<>();
        for (Disk disk : live()) {
            if (disk.superSector.sequence() != s.sequence()) {
                list.add(new Write(disk, x -> x.superSector = s));
            }
        }
        Journal j = live().stream().map(x -> x.journal).filter(x -> x != null && x.sequence() == s.sequence())
            .reduce((p, q) -> q.count() > p.count() ? q : p).orElse(null);
        if (j != null) {
            list.addAll(writesOf(j));
            done += 2;
        }
        if (!make(list)) {
            return 0;
        }
        Backup b = live().stream().map(x -> x.backup).filter(x -> x != null && x.sequence() == s.sequence())
            .findFirst().orElse(null);
        if (reshaped() && (b != null || !critical())) {
            return move(b == null ? List.of() : backups(b), b == null ? valuesOfFront() : b.values()) ? done + 4 : 0;
        }
        Super next = new Super(s.sequence() + 1, s.n(), s.m(), s.front());
        if (!make(supers(next, -1))) {
            return 0;
        }
        holds = next;
        return done;
    }

    int place(int a, int what) {
        if (!isPlace(a) || what < 0 || what > 3) {
            return -1;
        }
        int n = by(a);
        int row = a / (n - 1);
        int[] order = disksOf(n, row);
        return new int[] {order[1 + a % (n - 1)], row, order[0], a < holds.front() * (holds.m() - 1) ? 1 : 0}[what];
    }

    int disk(int d, int what) {
        if (d < 0 || d >= disks.size() || what < 0 || what > 5) {
            return -1;
        }
        Disk disk = disks.get(d);
        if (what < 3) {
            return new int[] {disk.failed ? 1 : disk.live() ? 0 : 2, d < holds.m() ? 0 : 1, disk.writes}[what];
        }
        if (disk.failed) {
            return -1;
        }
        return new int[] {disk.superSector == null ? 0 : disk.superSector.sequence(),
            disk.journal == null ? 0 : disk.journal.count(), disk.backup == null ? 0 : 1}[what - 3];
    }

    int count(int what) {
        int[] told = {disks.size(), holds.n(), holds.m(), holds.front(), places(), up ? 1 : 0, reshaped() ? 1 : 0,
            notLive(), rebuilt, holds.sequence(), begun, writes, steps, losses, rows};
        return what < 0 || what >= told.length ? -1 : told[what];
    }

    int astray() {
        if (!up || notLive() >= 0 && notLive() < holds.m()) {
            return -1;
        }
        int found = 0;
        for (int row = 0; row < rows; row++) {
            int n = row < holds.front() ? holds.m() : holds.n();
            found += xor(dataOf(n, row)) == disks.get(disksOf(n, row)[0]).blocks[row] ? 0 : 1;
        }
        return found;
    }

    long sum() {
        need(true);
        long total = 0;
        for (int a = 0; a < places(); a++) {
            total = 31 * total + read(a);
        }
        return total;
    }
}
