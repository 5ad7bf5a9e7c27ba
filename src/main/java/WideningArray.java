import java.util.Arrays;

/** An array of disks with parity that is made wider by one disk while it serves. */
public final class WideningArray {
    public static final int NONE = -1;

    private static final int LEAST_DISKS = 3;
    private static final int MOST_DISKS = 6;
    private static final int DATA_ROWS = 32;
    private static final int ROWS = 40;
    private static final int WORDS = 4;

    private static final int IN_OLD_LAYOUT = 0;
    private static final int IN_NEW_LAYOUT = 1;
    private static final int IN_WINDOW = 2;

    // A disk has the most writes waiting while the window, of 5 blocks at the most, is stashed.
    private static final int MOST_WAITING = 8;
    private static final int MARKS_ROW = -1;

    private static final int POINTS_OF_WRITE = 1;
    private static final int POINTS_OF_WIDEN = 1;
    private static final int POINTS_OF_STEP = 4;
    private static final int POINTS_OF_STASHED_STEP = 2;

    private final Disk[] disks = new Disk[MOST_DISKS];
    private final Marks now = new Marks();
    // Made once and used again by every call: the data of one row, or of the window, and its parity.
    private final int[] data = new int[MOST_DISKS * WORDS];
    private final int[] parity = new int[WORDS];
    private boolean made;
    private boolean failed;
    private int lost = NONE;
    private int replaced = NONE;
    // The waiting point of the next writing call at which power fails; 0 when it is not to fail.
    private int failPoint;
    private int failShares;

    public WideningArray() {
        for (int d = 0; d < MOST_DISKS; d++) {
            disks[d] = new Disk();
        }
    }

    public int format(int n) throws IllegalArgumentException {
        if (n < LEAST_DISKS || n > MOST_DISKS) {
            throw new IllegalArgumentException("an array has 3 to 6 disks");
        }
        for (int d = 0; d < MOST_DISKS; d++) {
            disks[d].empty();
        }
        made = true;
        failed = false;
        lost = NONE;
        replaced = NONE;
        failPoint = 0;
        now.empty();
        now.width = n;
        issueNewMarks();
        awaitWrites();
        return capacity();
    }

    public boolean write(int b, int i, int v)
            throws IllegalStateException, IndexOutOfBoundsException, UnsupportedOperationException {
        checkServing();
        checkWordOfBlock(b, i);
        int place = placeOf(b);
        if (place == IN_WINDOW) {
            return false;
        }
        beginWrites(POINTS_OF_WRITE);
        issueChange(b, widthIn(place), i, v);
        checkPower(awaitWrites());
        return true;
    }

    public int read(int b, int i) throws IllegalStateException, IndexOutOfBoundsException {
        checkServing();
        checkWordOfBlock(b, i);
        return wordOfBlock(b, i);
    }

    public int widen()
            throws IllegalStateException, IllegalArgumentException, UnsupportedOperationException {
        checkServing();
        if (now.widened || now.width == MOST_DISKS || absentDisk() != NONE) {
            throw new IllegalArgumentException("can't be made wider now");
        }
        beginWrites(POINTS_OF_WIDEN);
        disks[now.width].empty();
        now.widened = true;
        now.done = 0;
        now.stashed = false;
        issueNewMarks();
        checkPower(awaitWrites());
        return diskCount();
    }

    public int step()
            throws IllegalStateException, IllegalArgumentException, UnsupportedOperationException {
        checkServing();
        if (!now.widened) {
            throw new IllegalArgumentException("not widened");
        }
        beginWrites(now.stashed ? POINTS_OF_STASHED_STEP : POINTS_OF_STEP);
        fetchWindow();
        checkPower((now.stashed || stashWindow()) && layWindow() && markRowDone());
        return now.done;
    }

    public void lose(int d)
            throws IllegalStateException, IndexOutOfBoundsException, IllegalArgumentException {
        checkServing();
        checkDisk(d);
        if (absentDisk() != NONE || failPoint != 0) {
            throw new IllegalArgumentException("no disk can be lost now");
        }
        lost = d;
        disks[d].empty();
    }

    public int replace() throws IllegalStateException, IllegalArgumentException {
        checkServing();
        if (lost == NONE) {
            throw new IllegalArgumentException("no disk is lost");
        }
        replaced = lost;
        lost = NONE;
        return replaced;
    }

    public int rebuild() throws IllegalStateException, IllegalArgumentException {
        checkServing();
        if (replaced == NONE) {
            throw new IllegalArgumentException("no disk is replaced");
        }
        // Power can't be made to fail while a disk is not rebuilt, so its writes need not wait.
        int d = replaced;
        rebuildDataRows(d);
        rebuildStash(d);
        disks[d].setMarks(now);
        replaced = NONE;
        return d;
    }

    public void crash(int w, int c) throws IllegalStateException, IllegalArgumentException {
        checkServing();
        if (w < 1 || absentDisk() != NONE) {
            throw new IllegalArgumentException("power can't be made to fail so");
        }
        failPoint = w;
        failShares = c;
    }

    public int start() throws IllegalStateException {
        if (!failed) {
            throw new IllegalStateException("power has not failed");
        }
        failed = false;
        now.take(highestMarks());
        mendParity();
        if (!now.widened) {
            return 0;
        }
        return now.stashed ? 2 : 1;
    }

    public boolean good(int row)
            throws IllegalStateException, IndexOutOfBoundsException, IllegalArgumentException {
        checkServing();
        if (row < 0 || row >= DATA_ROWS) {
            throw new IndexOutOfBoundsException("no such data row");
        }
        if (absentDisk() != NONE || isBeingLaid(row)) {
            throw new IllegalArgumentException("the row can't be judged now");
        }
        return isParityRight(row);
    }

    public int layout(int b) throws IllegalStateException, IndexOutOfBoundsException {
        checkServing();
        checkWordOfBlock(b, 0);
        return placeOf(b);
    }

    public int cell(int d, int row, int i) throws IllegalStateException, IndexOutOfBoundsException {
        checkServing();
        checkDisk(d);
        if (row < 0 || row >= ROWS || i < 0 || i >= WORDS) {
            throw new IndexOutOfBoundsException("no such row or word");
        }
        return disks[d].word(row, i);
    }

    public int marks(int d, int place) throws IllegalStateException, IndexOutOfBoundsException {
        checkServing();
        checkDisk(d);
        if (place != 0 && place != 1) {
            throw new IndexOutOfBoundsException("no such place");
        }
        return disks[d].marksIn(place).number;
    }

    public int count(int what) {
        if (what == 7) {
            return failed ? 1 : 0;
        }
        if (!made || failed) {
            return NONE;
        }
        switch (what) {
            case 0: return diskCount();
            case 1: return capacity();
            case 2: return now.done;
            case 3: return now.widened ? 1 : 0;
            case 4: return now.stashed ? 1 : 0;
            case 5: return lost;
            case 6: return replaced;
            default: return NONE;
        }
    }

    private void checkServing() {
        if (!made || failed) {
            throw new IllegalStateException("no array, or no power");
        }
    }

    private void checkWordOfBlock(int b, int i) {
        if (b < 0 || b >= capacity() || i < 0 || i >= WORDS) {
            throw new IndexOutOfBoundsException("no such block or word");
        }
    }

    private void checkDisk(int d) {
        if (d < 0 || d >= diskCount()) {
            throw new IndexOutOfBoundsException("no such disk");
        }
    }

    private void checkPower(boolean held) {
        if (!held) {
            throw new UnsupportedOperationException("power failed");
        }
    }

    private int diskCount() {
        return now.widened ? now.width + 1 : now.width;
    }

    private int capacity() {
        return DATA_ROWS * (now.width - 1);
    }

    /** The disk that tells nothing and does no writes: lost, or replaced and not rebuilt. */
    private int absentDisk() {
        return lost != NONE ? lost : replaced;
    }

    private int firstOfWindow() {
        return now.done * now.width;
    }

    private int placeOf(int b) {
        if (!now.widened) {
            return IN_OLD_LAYOUT;
        }
        if (b < firstOfWindow()) {
            return IN_NEW_LAYOUT;
        }
        return now.stashed && b < firstOfWindow() + now.width ? IN_WINDOW : IN_OLD_LAYOUT;
    }

    private int widthIn(int place) {
        return place == IN_NEW_LAYOUT ? now.width + 1 : now.width;
    }

    private int widthOfRow(int row) {
        return now.widened && row < now.done ? now.width + 1 : now.width;
    }

    /** Such a row may have blocks of both layouts, so that its parity tells nothing. */
    private boolean isBeingLaid(int row) {
        return now.stashed && row == now.done;
    }

    private static int parityDisk(int k, int row) {
        return k - 1 - row % k;
    }

    private static int dataDisk(int k, int row, int j) {
        return (parityDisk(k, row) + 1 + j) % k;
    }

    private int wordOfBlock(int b, int i) {
        int place = placeOf(b);
        if (place == IN_WINDOW) {
            return wordOfStash(b - firstOfWindow(), i);
        }
        int k = widthIn(place);
        int row = b / (k - 1);
        return wordTold(k, row, dataDisk(k, row, b % (k - 1)), i);
    }

    private int wordOfStash(int j, int i) {
        int d = absentDisk() == now.width ? 0 : now.width;
        return disks[d].word(DATA_ROWS + j, i);
    }

    private int wordTold(int k, int row, int d, int i) {
        return d == absentDisk() ? wordByTheRest(k, row, d, i) : disks[d].word(row, i);
    }

    private int wordByTheRest(int k, int row, int d, int i) {
        int word = 0;
        for (int other = 0; other < k; other++) {
            if (other != d) {
                word ^= disks[other].word(row, i);
            }
        }
        return word;
    }

    private boolean isParityRight(int row) {
        int k = widthOfRow(row);
        int d = parityDisk(k, row);
        for (int i = 0; i < WORDS; i++) {
            if (disks[d].word(row, i) != wordByTheRest(k, row, d, i)) {
                return false;
            }
        }
        return true;
    }

    /** A waiting point behind the call's last one stands for the last one. */
    private void beginWrites(int points) {
        failPoint = Math.min(failPoint, points);
    }

    /** A waiting point: whether power has held. */
    private boolean awaitWrites() {
        boolean fails = failPoint == 1;
        for (int d = 0; d < MOST_DISKS; d++) {
            disks[d].doFirst(writesDone(d, fails));
        }
        if (failPoint > 0) {
            failPoint--;
        }
        failed = failed || fails;
        return !fails;
    }

    private int writesDone(int d, boolean fails) {
        if (d == absentDisk()) {
            return 0;
        }
        int waiting = disks[d].waiting;
        return fails ? (failShares >> 4 * d & 15) % (waiting + 1) : waiting;
    }

    private void issueNewMarks() {
        now.number++;
        for (int d = 0; d < diskCount(); d++) {
            disks[d].issueMarks(now);
        }
    }

    private void issueChange(int b, int k, int i, int v) {
        int row = b / (k - 1);
        int changed = b % (k - 1);
        fetchRow(k, row);
        data[changed * WORDS + i] = v;
        disks[dataDisk(k, row, changed)].issueBlock(row, data, changed * WORDS);
        issueParity(k, row);
    }

    private void fetchRow(int k, int row) {
        for (int j = 0; j < k - 1; j++) {
            for (int i = 0; i < WORDS; i++) {
                data[j * WORDS + i] = wordTold(k, row, dataDisk(k, row, j), i);
            }
        }
    }

    private void issueParity(int k, int row) {
        for (int i = 0; i < WORDS; i++) {
            parity[i] = 0;
            for (int j = 0; j < k - 1; j++) {
                parity[i] ^= data[j * WORDS + i];
            }
        }
        disks[parityDisk(k, row)].issueBlock(row, parity, 0);
    }

    private void fetchWindow() {
        for (int j = 0; j < now.width; j++) {
            int b = firstOfWindow() + j;
            for (int i = 0; i < WORDS; i++) {
                data[j * WORDS + i] = b < capacity() ? wordOfBlock(b, i) : 0;
            }
        }
    }

    private boolean stashWindow() {
        for (int j = 0; j < now.width; j++) {
            disks[now.width].issueBlock(DATA_ROWS + j, data, j * WORDS);
            disks[0].issueBlock(DATA_ROWS + j, data, j * WORDS);
        }
        if (!awaitWrites()) {
            return false;
        }
        now.stashed = true;
        issueNewMarks();
        return awaitWrites();
    }

    private boolean layWindow() {
        int k = now.width + 1;
        for (int j = 0; j < now.width; j++) {
            disks[dataDisk(k, now.done, j)].issueBlock(now.done, data, j * WORDS);
        }
        issueParity(k, now.done);
        return awaitWrites();
    }

    private boolean markRowDone() {
        now.done++;
        now.stashed = false;
        if (now.done == DATA_ROWS) {
            now.width++;
            now.widened = false;
            now.done = 0;
        }
        issueNewMarks();
        return awaitWrites();
    }

    private void rebuildDataRows(int d) {
        for (int row = 0; row < DATA_ROWS; row++) {
            int k = widthOfRow(row);
            if (d < k && !isBeingLaid(row)) {
                setByTheRest(k, row, d);
            }
        }
    }

    private void rebuildStash(int d) {
        if (!now.stashed || d != 0 && d != now.width) {
            return;
        }
        for (int j = 0; j < now.width; j++) {
            for (int i = 0; i < WORDS; i++) {
                disks[d].setWord(DATA_ROWS + j, i, wordOfStash(j, i));
            }
        }
    }

    private void setByTheRest(int k, int row, int d) {
        for (int i = 0; i < WORDS; i++) {
            disks[d].setWord(row, i, wordByTheRest(k, row, d, i));
        }
    }

    private Marks highestMarks() {
        Marks highest = disks[0].marksIn(0);
        for (int d = 0; d < MOST_DISKS; d++) {
            for (int place = 0; place < 2; place++) {
                Marks found = disks[d].marksIn(place);
                if (found.number > highest.number) {
                    highest = found;
                }
            }
        }
        return highest;
    }

    private void mendParity() {
        for (int row = 0; row < DATA_ROWS; row++) {
            int k = widthOfRow(row);
            if (!isBeingLaid(row)) {
                setByTheRest(k, row, parityDisk(k, row));
            }
        }
    }

    /** A number, and how things are. A number of 0 stands for no marks. */
    private static final class Marks {
        private int number;
        private int width;
        private boolean widened;
        private int done;
        private boolean stashed;

        void empty() {
            number = 0;
            width = 0;
            widened = false;
            done = 0;
            stashed = false;
        }

        void take(Marks other) {
            number = other.number;
            width = other.width;
            widened = other.widened;
            done = other.done;
            stashed = other.stashed;
        }
    }

    /** What a disk has, and the writes that wait there in the order of their issue. */
    private static final class Disk {
        private final int[] words = new int[ROWS * WORDS];
        private final Marks evenMarks = new Marks();
        private final Marks oddMarks = new Marks();
        private int waiting;
        private final int[] waitingRows = new int[MOST_WAITING];
        private final int[] waitingWords = new int[MOST_WAITING * WORDS];
        // One is enough: no call issues marks twice before a waiting point.
        private final Marks waitingMarks = new Marks();

        void empty() {
            Arrays.fill(words, 0);
            evenMarks.empty();
            oddMarks.empty();
            waiting = 0;
        }

        int word(int row, int i) {
            return words[row * WORDS + i];
        }

        void setWord(int row, int i, int v) {
            words[row * WORDS + i] = v;
        }

        Marks marksIn(int place) {
            return place == 1 ? oddMarks : evenMarks;
        }

        void setMarks(Marks told) {
            marksIn(told.number & 1).take(told);
        }

        void issueBlock(int row, int[] from, int at) {
            if (waiting < MOST_WAITING) {
                waitingRows[waiting] = row;
                System.arraycopy(from, at, waitingWords, waiting * WORDS, WORDS);
                waiting++;
            }
        }

        void issueMarks(Marks told) {
            if (waiting < MOST_WAITING) {
                waitingRows[waiting] = MARKS_ROW;
                waitingMarks.take(told);
                waiting++;
            }
        }

        /** Those that are not done by then are gone: power has failed, or the disk is absent. */
        void doFirst(int many) {
            for (int w = 0; w < many && w < waiting; w++) {
                int row = waitingRows[w];
                if (row == MARKS_ROW) {
                    setMarks(waitingMarks);
                } else {
                    System.arraycopy(waitingWords, w * WORDS, words, row * WORDS, WORDS);
                }
            }
            waiting = 0;
        }
    }
}
