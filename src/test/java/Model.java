import java.util.ArrayDeque;
import java.util.ArrayList;
import java.util.Arrays;
import java.util.Deque;
import java.util.List;

/**
 * A second reading of the document, slow and literal: it holds whole blocks, plans a call as a list
 * of phases (a phase ends at a waiting point), and looks for each block's copy by its name.
 */
final class Model {
    static final class Told {
        final int number;
        final int n;
        final boolean widened;
        final int done;
        final boolean stashed;

        Told(int number, int n, boolean widened, int done, boolean stashed) {
            this.number = number;
            this.n = n;
            this.widened = widened;
            this.done = done;
            this.stashed = stashed;
        }
    }

    static final class Platter {
        final int[][] rows = new int[40][4];
        final Told[] places = new Told[2];
        final Deque<Runnable> waiting = new ArrayDeque<>();
    }

    /** A list of k disks' numbers: data 0, data 1, .., and the parity as the last. */
    static int[] order(int k, int r) {
        int parity = Math.floorMod(k - 1 - r, k);
        int[] order = new int[k];
        order[k - 1] = parity;
        int at = parity;
        for (int i = 0; i < k - 1; i++) {
            at = at + 1 == k ? 0 : at + 1;
            order[i] = at;
        }
        return order;
    }

    private Told told;
    private List<Platter> platters = new ArrayList<>();
    private boolean failed;
    private int lost = -1;
    private int replaced = -1;
    private int[] plan;

    private void serving() {
        if (told == null || failed) {
            throw new IllegalStateException();
        }
    }

    private void bounds(boolean fine) {
        if (!fine) {
            throw new IndexOutOfBoundsException();
        }
    }

    private void argument(boolean fine) {
        if (!fine) {
            throw new IllegalArgumentException();
        }
    }

    private boolean whole() {
        return lost < 0 && replaced < 0;
    }

    private boolean absent(int d) {
        return d == lost || d == replaced;
    }

    private int[] blockAt(int d, int row, int k) {
        if (!absent(d)) {
            return platters.get(d).rows[row].clone();
        }
        int[] sum = new int[4];
        for (int e = 0; e < k; e++) {
            if (e != d) {
                add(sum, platters.get(e).rows[row]);
            }
        }
        return sum;
    }

    private static void add(int[] sum, int[] block) {
        for (int i = 0; i < 4; i++) {
            sum[i] ^= block[i];
        }
    }

    private int[] blockOf(int b) {
        if (b >= 32 * (told.n - 1)) {
            return new int[4];
        }
        int where = where(b);
        if (where == 2) {
            int row = 32 + b - told.done * told.n;
            return platters.get(absent(0) ? told.n : 0).rows[row].clone();
        }
        int k = told.n + where;
        int row = b / (k - 1);
        return blockAt(order(k, row)[b % (k - 1)], row, k);
    }

    private int where(int b) {
        if (!told.widened) {
            return 0;
        }
        if (told.stashed && b >= told.done * told.n && b < told.done * told.n + told.n) {
            return 2;
        }
        return b < told.done * told.n ? 1 : 0;
    }

    private int[] lawfulParity(int row, int k) {
        int[] order = order(k, row);
        int[] sum = new int[4];
        for (int i = 0; i < k - 1; i++) {
            add(sum, blockAt(order[i], row, k));
        }
        return sum;
    }

    private int layoutOfRow(int row) {
        return told.widened && row < told.done ? told.n + 1 : told.n;
    }

    private void issue(int d, int row, int[] block) {
        int[] kept = block.clone();
        Platter to = platters.get(d);
        to.waiting.add(() -> to.rows[row] = kept);
    }

    private void issueMarks(Told next) {
        for (Platter to : platters) {
            to.waiting.add(() -> to.places[next.number % 2] = next);
        }
    }

    /** Does each phase and then waits; the plan's waiting point, or the last one, may fail. */
    private void carryOut(Runnable... phases) {
        int[] now = plan;
        int failing = now == null ? 0 : Math.min(now[0], phases.length);
        plan = null;
        for (int p = 1; p <= phases.length; p++) {
            phases[p - 1].run();
            for (int d = 0; d < platters.size(); d++) {
                Deque<Runnable> waiting = platters.get(d).waiting;
                int many = waiting.size();
                if (p == failing) {
                    many = ((now[1] >> (4 * d)) & 15) % (many + 1);
                }
                for (int w = 0; w < many; w++) {
                    Runnable write = waiting.poll();
                    if (!absent(d)) {
                        write.run();
                    }
                }
                waiting.clear();
            }
            if (p == failing) {
                failed = true;
                throw new UnsupportedOperationException();
            }
        }
    }

    int format(int n) {
        argument(n >= 3 && n <= 6);
        platters = new ArrayList<>();
        told = new Told(1, n, false, 0, false);
        for (int d = 0; d < n; d++) {
            Platter made = new Platter();
            made.places[1] = told;
            platters.add(made);
        }
        failed = false;
        lost = -1;
        replaced = -1;
        plan = null;
        return 32 * (n - 1);
    }

    boolean write(int b, int i, int v) {
        serving();
        bounds(b >= 0 && b < 32 * (told.n - 1) && i >= 0 && i <= 3);
        int where = where(b);
        if (where == 2) {
            return false;
        }
        int k = told.n + where;
        int row = b / (k - 1);
        int[] order = order(k, row);
        int[] before = blockOf(b);
        int[] after = before.clone();
        after[i] = v;
        int[] parity = lawfulParity(row, k);
        add(parity, before);
        add(parity, after);
        carryOut(() -> {
            issue(order[b % (k - 1)], row, after);
            issue(order[k - 1], row, parity);
        });
        return true;
    }

    int read(int b, int i) {
        serving();
        bounds(b >= 0 && b < 32 * (told.n - 1) && i >= 0 && i <= 3);
        return blockOf(b)[i];
    }

    int widen() {
        serving();
        argument(!told.widened && told.n < 6 && whole());
        platters.add(new Platter());
        Told next = new Told(told.number + 1, told.n, true, 0, false);
        carryOut(() -> issueMarks(next));
        told = next;
        return platters.size();
    }

    int step() {
        serving();
        argument(told.widened);
        int n = told.n;
        int row = told.done;
        int[][] blocks = new int[n][];
        for (int i = 0; i < n; i++) {
            blocks[i] = blockOf(row * n + i);
        }
        int number = told.stashed ? told.number : told.number + 1;
        Told stashed = new Told(number, n, true, row, true);
        Told next = row == 31
                ? new Told(number + 1, n + 1, false, 0, false)
                : new Told(number + 1, n, true, row + 1, false);
        Runnable lay = () -> {
            int[] order = order(n + 1, row);
            int[] parity = new int[4];
            for (int i = 0; i < n; i++) {
                issue(order[i], row, blocks[i]);
                add(parity, blocks[i]);
            }
            issue(order[n], row, parity);
        };
        Runnable stash = () -> {
            for (int i = 0; i < n; i++) {
                issue(n, 32 + i, blocks[i]);
                issue(0, 32 + i, blocks[i]);
            }
        };
        if (told.stashed) {
            carryOut(lay, () -> issueMarks(next));
        } else {
            carryOut(stash, () -> issueMarks(stashed), lay, () -> issueMarks(next));
        }
        told = next;
        return told.done;
    }

    void lose(int d) {
        serving();
        bounds(d >= 0 && d < platters.size());
        argument(whole() && plan == null);
        lost = d;
    }

    int replace() {
        serving();
        argument(lost >= 0);
        platters.set(lost, new Platter());
        replaced = lost;
        lost = -1;
        return replaced;
    }

    int rebuild() {
        serving();
        argument(replaced >= 0);
        int d = replaced;
        Platter to = platters.get(d);
        for (int row = 0; row < 32; row++) {
            int k = layoutOfRow(row);
            if (d < k && !(told.stashed && row == told.done)) {
                to.rows[row] = blockAt(d, row, k);
            }
        }
        if (told.stashed && (d == 0 || d == told.n)) {
            for (int i = 0; i < told.n; i++) {
                to.rows[32 + i] = platters.get(told.n - d).rows[32 + i].clone();
            }
        }
        to.places[told.number % 2] = told;
        replaced = -1;
        return d;
    }

    void crash(int w, int c) {
        serving();
        argument(w >= 1 && whole());
        plan = new int[] {w, c};
    }

    int start() {
        if (!failed) {
            throw new IllegalStateException();
        }
        Told best = null;
        for (Platter p : platters) {
            for (Told t : p.places) {
                if (t != null && (best == null || t.number > best.number)) {
                    best = t;
                }
            }
        }
        told = best;
        failed = false;
        while (platters.size() > (told.widened ? told.n + 1 : told.n)) {
            platters.remove(platters.size() - 1);
        }
        for (int row = 0; row < 32; row++) {
            int k = layoutOfRow(row);
            if (!(told.stashed && row == told.done)) {
                platters.get(order(k, row)[k - 1]).rows[row] = lawfulParity(row, k);
            }
        }
        return told.stashed ? 2 : told.widened ? 1 : 0;
    }

    boolean good(int row) {
        serving();
        bounds(row >= 0 && row < 32);
        argument(whole() && !(told.stashed && row == told.done));
        int k = layoutOfRow(row);
        return Arrays.equals(platters.get(order(k, row)[k - 1]).rows[row], lawfulParity(row, k));
    }

    int layout(int b) {
        serving();
        bounds(b >= 0 && b < 32 * (told.n - 1));
        return where(b);
    }

    int cell(int d, int row, int i) {
        serving();
        bounds(d >= 0 && d < platters.size() && row >= 0 && row < 40 && i >= 0 && i < 4);
        return d == lost ? 0 : platters.get(d).rows[row][i];
    }

    int marks(int d, int place) {
        serving();
        bounds(d >= 0 && d < platters.size() && place >= 0 && place < 2);
        Told t = d == lost ? null : platters.get(d).places[place];
        return t == null ? 0 : t.number;
    }

    int count(int what) {
        if (what == 7) {
            return failed ? 1 : 0;
        }
        if (told == null || failed || what < 0 || what > 7) {
            return -1;
        }
        int[] all = {platters.size(), 32 * (told.n - 1), told.done, told.widened ? 1 : 0,
            told.stashed ? 1 : 0, lost, replaced};
        return all[what];
    }
}
