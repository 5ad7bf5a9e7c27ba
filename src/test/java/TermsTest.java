/** Each sentence of "Terms" that names a boundary case has a test of its own here. */
public final class TermsTest {
    private static final Check CHECK = new Check("TermsTest");

    /** Rows 0 .. k - 1 of a layout of k disks, by hand: the disks of data 0, 1, .., the parity's last. */
    private static final int[][][] BY_HAND = {
        {{0, 1, 2}, {2, 0, 1}, {1, 2, 0}},
        {{0, 1, 2, 3}, {3, 0, 1, 2}, {2, 3, 0, 1}, {1, 2, 3, 0}},
        {{0, 1, 2, 3, 4}, {4, 0, 1, 2, 3}, {3, 4, 0, 1, 2}, {2, 3, 4, 0, 1}, {1, 2, 3, 4, 0}},
        {{0, 1, 2, 3, 4, 5}, {5, 0, 1, 2, 3, 4}, {4, 5, 0, 1, 2, 3}, {3, 4, 5, 0, 1, 2},
            {2, 3, 4, 5, 0, 1}, {1, 2, 3, 4, 5, 0}},
    };

    public static void main(String[] args) {
        disksAndLayouts();
        arrayAndWindow();
        writesAndWaitingPoints();
        power();
        starting();
        lostDisks();
        exceptions();
        CHECK.end();
    }

    private static void disksAndLayouts() {
        CHECK.sentence("40 ROWS with a BLOCK of four words each", TermsTest::fortyRowsOfFourWords);
        CHECK.sentence("rows 0 .. 31 for data, 32 .. 39 for the stash", TermsTest::dataRowsAndStashRows);
        CHECK.sentence("All are 0 on an empty disk.", TermsTest::anEmptyDisk);
        CHECK.sentence("the parity (the exclusive or of the row's data) is on disk k - 1 - r modulo k",
                TermsTest::parityGoesRound);
        CHECK.sentence("data i (0 .. k - 2) on the disk that comes i + 1 behind that, going round",
                TermsTest::dataGoesRound);
        CHECK.sentence("Block number b is data b modulo (k - 1) of row b / (k - 1).",
                TermsTest::blocksAtTheEndsOfRows);
    }

    private static void arrayAndWindow() {
        CHECK.sentence("THE ARRAY has n disks (3 to 6) and a capacity of 32 * (n - 1) blocks.",
                TermsTest::capacity);
        CHECK.sentence("DONE rows (0 .. 31) are in the new layout", TermsTest::doneRows);
        CHECK.sentence("THE WINDOW are then the n blocks from done * n on", TermsTest::endsOfTheWindow);
        CHECK.sentence("blocks below are in the new layout, others in the old one",
                TermsTest::roundTheWindow);
        CHECK.sentence("(all are, when it is not stashed)", TermsTest::noWindowWithoutStash);
        CHECK.sentence("Its capacity stays that of n disks", TermsTest::capacityStays);
        CHECK.sentence("blocks of the new layout beyond it have 0", TermsTest::beyondTheCapacity);
        CHECK.sentence("its i-th block in row 32 + i of disk n, and in row 32 + i of disk 0.",
                TermsTest::stashIsKeptTwice);
        CHECK.sentence("New marks have the number of those before plus 1", TermsTest::marksCountOn);
        CHECK.sentence("written on all disks of the array (the added one, too)",
                TermsTest::marksOnAllDisks);
        CHECK.sentence("the odd ones in one place, the even ones in the other",
                TermsTest::marksTakeTurns);
    }

    private static void writesAndWaitingPoints() {
        CHECK.sentence("each disk does them in the order in which they were issued to it",
                TermsTest::firstOnesFirst);
        CHECK.sentence("At a WAITING POINT all are done.", TermsTest::allDoneBeforeTheNextPoint);
        CHECK.sentence("A disk that is lost does none, but they are issued.", TermsTest::lostDoesNone);
        CHECK.sentence("WRITE of a word: .. then the row's parity, as it is with the changed block",
                TermsTest::parityOfTheChangedBlock);
        CHECK.sentence("STEP, not stashed: .. 0 beyond the capacity", TermsTest::stashBeyondTheCapacity);
        CHECK.sentence("(or at once, when it is stashed)", TermsTest::stashedStepIsShort);
        CHECK.sentence("when 32 are done the array has n + 1 disks, is not widened, and done is 0",
                TermsTest::thirtyTwoAreDone);
    }

    private static void power() {
        CHECK.sentence("in the next call that issues writes", TermsTest::callsWithoutWrites);
        CHECK.sentence("at its w-th waiting point (1 the first)", TermsTest::eachWaitingPoint);
        CHECK.sentence("or its last one", TermsTest::behindTheLastPoint);
        CHECK.sentence("c >> 4 * d & 15", TermsTest::sharesOfEachDisk);
        CHECK.sentence("modulo (how many wait there + 1)", TermsTest::moreThanWait);
        CHECK.sentence("The call throws, and all but format(), start() and count() throw until start().",
                TermsTest::untilStart);
    }

    private static void starting() {
        CHECK.sentence("of all marks on the disks those with the highest number tell how things are",
                TermsTest::oneCopyIsEnough);
        CHECK.sentence("parity is made right where it is not", TermsTest::parityIsMadeRight);
        CHECK.sentence("(but row done, when it is stashed)", TermsTest::rowDoneIsLeft);
        CHECK.sentence("by the new layout below done, else by that of n disks",
                TermsTest::parityOnBothSidesOfDone);
    }

    private static void lostDisks() {
        CHECK.sentence("what it had is told by the rest of its row", TermsTest::toldByTheRest);
        CHECK.sentence("(the stash by its other copy)", TermsTest::toldByTheOtherCopy);
        CHECK.sentence("A REPLACED one is empty, and as if lost (it does no writes either), until it is"
                + " rebuilt.", TermsTest::replacedIsAsIfLost);
        CHECK.sentence("There is at most one such disk.", TermsTest::atMostOne);
    }

    private static void exceptions() {
        CHECK.sentence("IllegalStateException, when there is no array", TermsTest::noArray);
        CHECK.sentence("or power has failed", TermsTest::noPower);
        CHECK.sentence("Of several exceptions the first one told is thrown.", TermsTest::theFirstOneTold);
        CHECK.sentence("NONE = -1", () -> CHECK.due("NONE", -1, () -> WideningArray.NONE));
    }

    private static int[] byHand(int k, int row) {
        return BY_HAND[k - 3][row % k];
    }

    private static WideningArray started(WideningArray x) {
        x.start();
        return x;
    }

    // Disks and layouts

    private static void fortyRowsOfFourWords() {
        WideningArray x = States.made(3);
        CHECK.due("the first word", 0, () -> x.cell(0, 0, 0));
        CHECK.due("the last word", 0, () -> x.cell(0, 39, 3));
        CHECK.outOfBounds("row 40", () -> x.cell(0, 40, 0));
        CHECK.outOfBounds("row -1", () -> x.cell(0, -1, 0));
        CHECK.outOfBounds("word 4", () -> x.cell(0, 39, 4));
        CHECK.outOfBounds("word -1", () -> x.cell(0, 39, -1));
        for (int i = 0; i < 4; i++) {
            int word = i;
            x.write(63, i, 10 + i);
            CHECK.due("each word is one of its own", 10 + i, () -> x.cell(0, 31, word));
        }
        for (int i = 0; i < 4; i++) {
            int word = i;
            CHECK.due("no word is another one's", 10 + i, () -> x.read(63, word));
        }
    }

    private static void dataRowsAndStashRows() {
        for (int n = 3; n <= 6; n++) {
            WideningArray x = States.filled(n);
            int last = 32 * (n - 1);
            int[] disks = byHand(n, 31);
            CHECK.due("the last block is in row 31", last, () -> x.cell(disks[disks.length - 2], 31, 0));
            for (int row = 32; row < 40; row++) {
                CHECK.cells("no data in a row of the stash", x, row, new int[n]);
            }
        }
    }

    private static void anEmptyDisk() {
        for (int n = 3; n <= 6; n++) {
            WideningArray x = States.made(n);
            for (int row = 0; row < 40; row++) {
                CHECK.cells("a new array of " + n, x, row, new int[n]);
            }
            CHECK.marks("no marks but the first", x, 0, new int[n]);
        }
        // A disk that an older array had used is as empty.
        WideningArray y = States.filled(6);
        y.format(3);
        y.widen();
        for (int r = 0; r < 40; r++) {
            int row = r;
            CHECK.due("the added disk", 0, () -> y.cell(3, row, 0));
        }
        CHECK.due("the added disk's odd marks", 0, () -> y.marks(3, 1));
    }

    private static void parityGoesRound() {
        for (int k = 3; k <= 6; k++) {
            WideningArray x = States.filled(k);
            for (int row = 0; row < 32; row++) {
                int sum = 0;
                for (int b = row * (k - 1); b < (row + 1) * (k - 1); b++) {
                    sum ^= b + 1;
                }
                int d = byHand(k, row)[k - 1];
                int at = row;
                CHECK.due("parity of row " + row + " of " + k, sum, () -> x.cell(d, at, 0));
            }
        }
    }

    private static void dataGoesRound() {
        for (int k = 3; k <= 6; k++) {
            WideningArray x = States.filled(k);
            for (int row = 0; row < 32; row++) {
                for (int i = 0; i < k - 1; i++) {
                    int d = byHand(k, row)[i];
                    int at = row;
                    CHECK.due("data " + i + " of row " + row + " of " + k, row * (k - 1) + i + 1,
                            () -> x.cell(d, at, 0));
                }
            }
        }
    }

    private static void blocksAtTheEndsOfRows() {
        for (int k = 3; k <= 6; k++) {
            int blocks = 32 * (k - 1);
            int[] some = {0, k - 2, k - 1, 2 * k - 3, 2 * k - 2, blocks - k + 1, blocks - 1};
            int[] rows = {0, 0, 1, 1, 2, 31, 31};
            int[] data = {0, k - 2, 0, k - 2, 0, 0, k - 2};
            for (int s = 0; s < some.length; s++) {
                WideningArray x = States.made(k);
                int[] want = new int[k];
                want[byHand(k, rows[s])[data[s]]] = 7;
                want[byHand(k, rows[s])[k - 1]] = 7;
                CHECK.due("write of block " + some[s], true, write(x, some[s], 7));
                CHECK.cells("block " + some[s] + " of " + k, x, rows[s], want);
            }
        }
    }

    private static Check.Call write(WideningArray x, int b, int v) {
        return () -> x.write(b, 0, v);
    }

    // The array and the window

    private static void capacity() {
        int[] want = {64, 96, 128, 160};
        for (int k = 3; k <= 6; k++) {
            int n = k;
            WideningArray x = new WideningArray();
            int blocks = want[n - 3];
            CHECK.due("format(" + n + ")", blocks, () -> x.format(n));
            CHECK.due("the disks", n, () -> x.count(0));
            CHECK.due("the capacity", blocks, () -> x.count(1));
            CHECK.due("the last block", 0, () -> x.read(blocks - 1, 0));
            CHECK.outOfBounds("a block more", () -> x.read(blocks, 0));
            CHECK.due("the last disk", 0, () -> x.cell(n - 1, 0, 0));
            CHECK.outOfBounds("a disk more", () -> x.cell(n, 0, 0));
        }
        CHECK.illegalArgument("two disks", () -> new WideningArray().format(2));
        CHECK.illegalArgument("seven disks", () -> new WideningArray().format(7));
    }

    private static void doneRows() {
        for (int n = 3; n <= 5; n++) {
            WideningArray x = States.widened(n, 0);
            CHECK.due("none at first", 0, () -> x.count(2));
            for (int done = 1; done <= 31; done++) {
                x.step();
                CHECK.due("done", done, () -> x.count(2));
                int row = done - 1;
                int b = row * n;
                CHECK.due("data 0 of the row that is done", b < 32 * (n - 1) ? b + 1 : 0,
                        () -> x.cell(byHandOfWider(x, row)[0], row, 0));
            }
            x.step();
            CHECK.due("never 32", 0, () -> x.count(2));
        }
    }

    private static int[] byHandOfWider(WideningArray x, int row) {
        return byHand(x.count(0), row);
    }

    private static void endsOfTheWindow() {
        CHECK.layouts("at the first row", States.stashed(3, 0), 0, 2, 2, 2, 0);
        CHECK.layouts("at row 7 of 3", States.stashed(3, 7), 20, 1, 2, 2, 2, 0);
        CHECK.layouts("at row 7 of 4", States.stashed(4, 7), 27, 1, 2, 2, 2, 2, 0);
        CHECK.layouts("at row 7 of 5", States.stashed(5, 7), 34, 1, 2, 2, 2, 2, 2, 0);
        // The window of row 21 has one block below the capacity of 64, that of row 22 has none.
        CHECK.layouts("over the capacity of 3", States.stashed(3, 21), 61, 1, 1, 2);
        CHECK.layouts("beyond the capacity of 3", States.stashed(3, 22), 61, 1, 1, 1);
        CHECK.layouts("up to the capacity of 4", States.stashed(4, 23), 91, 1, 2, 2, 2, 2);
        CHECK.layouts("beyond the capacity of 4", States.stashed(4, 24), 91, 1, 1, 1, 1, 1);
        CHECK.layouts("over the capacity of 5", States.stashed(5, 25), 124, 1, 2, 2, 2);
        CHECK.outOfBounds("no block of the window beyond it", () -> States.stashed(5, 25).layout(128));
        CHECK.layouts("at the last row", States.stashed(5, 31), 124, 1, 1, 1, 1);
    }

    private static void roundTheWindow() {
        WideningArray x = States.stashed(4, 5);
        // Row 4 of five disks has block 19 on disk 4 as data 3; row 8 of four has block 24 on disk 0.
        CHECK.layouts("below", x, 0, 1, 1, 1);
        CHECK.layouts("round the window", x, 18, 1, 1, 2, 2, 2, 2, 0, 0);
        CHECK.layouts("above", x, 93, 0, 0, 0);
        CHECK.due("write below", true, () -> x.write(19, 0, 500));
        CHECK.due("write above", true, () -> x.write(24, 0, 600));
        CHECK.due("in the new layout", 500, () -> x.cell(4, 4, 0));
        CHECK.due("in the old layout", 600, () -> x.cell(0, 8, 0));
        CHECK.words("all is there", x, 18, 19, 500, 21, 22, 23, 24, 600, 26);
    }

    private static void noWindowWithoutStash() {
        CHECK.layouts("not widened", States.filled(3), 0, 0, 0, 0, 0);
        CHECK.layouts("no row done", States.widened(3, 0), 0, 0, 0, 0, 0);
        CHECK.layouts("7 rows done", States.widened(3, 7), 20, 1, 0, 0, 0, 0);
        CHECK.layouts("21 rows done", States.widened(3, 21), 62, 1, 0);
        CHECK.layouts("22 rows done", States.widened(3, 22), 62, 1, 1);
        CHECK.layouts("at the end", States.widened(3, 32), 62, 0, 0, 0);
        WideningArray x = States.widened(3, 7);
        CHECK.due("write where the window will be", true, () -> x.write(21, 0, 700));
        // Block 21 is data 1 of row 10 of three disks: on disk 0.
        CHECK.due("in the old layout", 700, () -> x.cell(0, 10, 0));
    }

    private static void capacityStays() {
        for (int k = 3; k <= 5; k++) {
            int n = k;
            int blocks = 32 * (n - 1);
            WideningArray[] all = {States.widened(n, 0), States.widened(n, 31), States.stashed(n, 31)};
            for (WideningArray x : all) {
                CHECK.due("while widened", blocks, () -> x.count(1));
                CHECK.due("the last block", blocks, () -> x.read(blocks - 1, 0));
                CHECK.outOfBounds("read beyond", () -> x.read(blocks, 0));
                CHECK.outOfBounds("write beyond", () -> x.write(blocks, 0, 1));
                CHECK.outOfBounds("layout beyond", () -> x.layout(blocks));
            }
            CHECK.due("at the end", 32 * n, () -> States.widened(n, 32).count(1));
        }
    }

    private static void beyondTheCapacity() {
        // Row 21 of four disks: parity on disk 2, blocks 63, 64, 65 on disks 3, 0, 1.
        CHECK.cells("row 21, old", States.widened(3, 21), 21, 43, 44, 43 ^ 44, 0);
        CHECK.cells("row 21, new", States.widened(3, 22), 21, 0, 0, 64, 64);
        CHECK.cells("row 22, old", States.widened(3, 22), 22, 46, 45 ^ 46, 45, 0);
        CHECK.cells("row 22, new", States.widened(3, 23), 22, 0, 0, 0, 0);
        CHECK.cells("row 31, new", States.widened(3, 32), 31, 0, 0, 0, 0);
        for (int n = 3; n <= 5; n++) {
            WideningArray x = States.widened(n, 32);
            CHECK.words("blocks beyond the old capacity", x, 32 * (n - 1) - 1, 32 * (n - 1), 0);
            for (int b = 32 * (n - 1); b < 32 * n; b++) {
                CHECK.words("blocks beyond the old capacity", x, b, 0);
            }
        }
    }

    private static void stashIsKeptTwice() {
        for (int n = 3; n <= 5; n++) {
            WideningArray x = States.stashed(n, 0);
            for (int i = 0; i < 8; i++) {
                int[] want = new int[n + 1];
                want[0] = i < n ? i + 1 : 0;
                want[n] = want[0];
                CHECK.cells("row " + (32 + i) + " of " + n, x, 32 + i, want);
            }
        }
        for (int n = 3; n <= 5; n++) {
            // Disk 0 has block n in the old row 1, and block n + 1 in the new one, which it has done.
            WideningArray y = started(States.cutOffStep(States.stashed(n, 1), 1, 0x0001));
            CHECK.due("row 1 is half laid", n + 2, () -> y.cell(0, 1, 0));
            for (int b = n; b < 2 * n; b++) {
                CHECK.words("a block of the window is read from it", y, b, b + 1);
            }
        }
    }

    private static void marksCountOn() {
        WideningArray x = States.made(3);
        CHECK.due("the first", 1, () -> x.marks(0, 1));
        x.widen();
        CHECK.due("widen has one more", 2, () -> x.marks(0, 0));
        x.step();
        CHECK.due("the step's with stashed", 3, () -> x.marks(0, 1));
        CHECK.due("the step's with a row more", 4, () -> x.marks(0, 0));
        for (int s = 1; s < 32; s++) {
            x.step();
        }
        CHECK.due("at the end", 66, () -> x.marks(0, 0));
        x.widen();
        CHECK.due("and on", 67, () -> x.marks(0, 1));
        WideningArray y = started(States.cutOffWiden(States.made(3), 1, 0));
        y.widen();
        CHECK.due("marks that no disk has do not count", 2, () -> y.marks(0, 0));
        WideningArray z = started(States.cutOffWiden(States.made(3), 1, 0x10));
        z.step();
        CHECK.due("marks that one disk has do", 4, () -> z.marks(0, 0));
    }

    private static void marksOnAllDisks() {
        for (int n = 3; n <= 5; n++) {
            WideningArray x = States.made(n);
            CHECK.marks("format", x, 1, same(n, 1));
            CHECK.outOfBounds("no disk more", () -> x.marks(x.count(0), 1));
            x.widen();
            CHECK.marks("widen", x, 0, same(n + 1, 2));
            x.step();
            CHECK.marks("a step, stashed", x, 1, same(n + 1, 3));
            CHECK.marks("a step, a row more", x, 0, same(n + 1, 4));
            for (int s = 1; s < 32; s++) {
                x.step();
            }
            CHECK.marks("the last step, stashed", x, 1, same(n + 1, 65));
            CHECK.marks("the last step, at the end", x, 0, same(n + 1, 66));
        }
        CHECK.marks("format of six", States.made(6), 1, same(6, 1));
    }

    private static int[] same(int many, int number) {
        int[] all = new int[many];
        for (int k = 0; k < many; k++) {
            all[k] = number;
        }
        return all;
    }

    private static void marksTakeTurns() {
        WideningArray x = States.made(4);
        CHECK.marks("number 1: odd", x, 1, 1, 1, 1, 1);
        CHECK.marks("number 1: even", x, 0, 0, 0, 0, 0);
        x.widen();
        CHECK.marks("number 2: odd", x, 1, 1, 1, 1, 1, 0);
        CHECK.marks("number 2: even", x, 0, 2, 2, 2, 2, 2);
        States.cutOffStep(x, 3, 0);
        x.start();
        CHECK.marks("number 3: odd", x, 1, 3, 3, 3, 3, 3);
        CHECK.marks("number 3: even", x, 0, 2, 2, 2, 2, 2);
        x.step();
        CHECK.marks("number 4: odd", x, 1, 3, 3, 3, 3, 3);
        CHECK.marks("number 4: even", x, 0, 4, 4, 4, 4, 4);
    }

    // Writes and waiting points

    private static void firstOnesFirst() {
        for (int n = 3; n <= 5; n++) {
            for (int first = 0; first <= n; first++) {
                for (int second = 0; second <= n; second++) {
                    WideningArray x = States.widened(n, 0);
                    started(States.cutOffStep(x, 1, first << 4 * n | second));
                    for (int i = 0; i < n; i++) {
                        int[] want = new int[n + 1];
                        want[n] = i < first ? i + 1 : 0;
                        want[0] = i < second ? i + 1 : 0;
                        CHECK.cells(first + " and " + second + " of " + n, x, 32 + i, want);
                    }
                }
            }
        }
    }

    private static void allDoneBeforeTheNextPoint() {
        WideningArray x = started(States.cutOffStep(States.widened(4, 0), 2, 0));
        for (int i = 0; i < 4; i++) {
            CHECK.cells("the stash, at point 2", x, 32 + i, i + 1, 0, 0, 0, i + 1);
        }
        CHECK.marks("no marks, at point 2", x, 1, 1, 1, 1, 1, 0);
        WideningArray y = started(States.cutOffStep(States.widened(4, 0), 3, 0));
        CHECK.marks("the marks, at point 3", y, 1, 3, 3, 3, 3, 3);
        CHECK.cells("row 0 is old, at point 3", y, 0, 1, 2, 3, 1 ^ 2 ^ 3, 0);
        WideningArray z = started(States.cutOffStep(States.widened(4, 0), 4, 0));
        CHECK.cells("row 0 is new, at point 4", z, 0, 1, 2, 3, 4, 1 ^ 2 ^ 3 ^ 4);
        CHECK.marks("no more marks, at point 4", z, 0, 2, 2, 2, 2, 2);
        WideningArray w = States.made(3);
        w.write(0, 0, 5);
        CHECK.cells("at the end of a write", w, 0, 5, 0, 5);
        WideningArray v = States.widened(3, 1);
        CHECK.marks("at the end of a step", v, 0, 4, 4, 4, 4);
    }

    private static void lostDoesNone() {
        for (int d = 0; d <= 3; d++) {
            WideningArray x = States.lost(States.widened(3, 1), d);
            // Row 0 of four disks: blocks 0, 1, 2 on disks 0, 1, 2, the parity on disk 3.
            for (int b = 0; b < 3; b++) {
                CHECK.due("write of a block of row 0", true, write(x, b, 100 + b));
            }
            CHECK.due("step", 2, x::step);
            int lost = d;
            int[] want = {100, 101, 102, 100 ^ 101 ^ 102};
            want[d] = 0;
            CHECK.cells("disk " + d + " does not write its block", x, 0, want);
            for (int row = 32; row < 35; row++) {
                int at = row;
                CHECK.due("nor the stash", 0, () -> x.cell(lost, at, 0));
                CHECK.due("the other copy is written", at - 28, () -> x.cell(lost == 0 ? 3 : 0, at, 0));
            }
            CHECK.due("nor the marks", 0, () -> x.marks(lost, 0) + x.marks(lost, 1));
            CHECK.due("the others have them", 6, () -> x.marks(lost == 0 ? 1 : 0, 0));
        }
    }

    private static void parityOfTheChangedBlock() {
        for (int k = 3; k <= 6; k++) {
            for (int i = 0; i < 4; i++) {
                WideningArray x = States.made(k);
                int word = i;
                for (int data = 0; data < k - 1; data++) {
                    x.write(data, i, 1 << data);
                }
                int all = (1 << k - 1) - 1;
                CHECK.due("the row's parity", all, () -> x.cell(x.count(0) - 1, 0, word));
                x.write(k - 2, i, Integer.MIN_VALUE);
                CHECK.due("with the changed block", Integer.MIN_VALUE | all >> 1,
                        () -> x.cell(x.count(0) - 1, 0, word));
                x.write(k - 2, i, 0);
                CHECK.due("with 0 again", all >> 1, () -> x.cell(x.count(0) - 1, 0, word));
            }
        }
    }

    private static void stashBeyondTheCapacity() {
        WideningArray x = States.widened(3, 21);
        CHECK.cells("row 20's window is all there", x, 34, 63, 0, 0, 63);
        x.step();
        CHECK.cells("row 21's window, its block 63", x, 32, 64, 0, 0, 64);
        CHECK.cells("row 21's window, beyond", x, 33, 0, 0, 0, 0);
        CHECK.cells("row 21's window, beyond", x, 34, 0, 0, 0, 0);
        x.step();
        CHECK.cells("row 22's window, beyond", x, 32, 0, 0, 0, 0);
        WideningArray y = States.widened(4, 24);
        CHECK.cells("the last window of 4", y, 35, 96, 0, 0, 0, 96);
        y.step();
        for (int row = 32; row < 36; row++) {
            CHECK.cells("all beyond", y, row, 0, 0, 0, 0, 0);
        }
        WideningArray z = States.widened(5, 26);
        CHECK.cells("the last block of 5", z, 34, 128, 0, 0, 0, 0, 128);
        CHECK.cells("beyond", z, 35, 0, 0, 0, 0, 0, 0);
        CHECK.cells("beyond", z, 36, 0, 0, 0, 0, 0, 0);
    }

    private static void stashedStepIsShort() {
        WideningArray x = States.stashed(3, 2);
        CHECK.due("a stashed step", 3, x::step);
        CHECK.marks("has the marks of a row more alone", x, 0, 8, 8, 8, 8);
        CHECK.marks("no others with stashed", x, 1, 7, 5, 5, 5);
        WideningArray y = started(States.cutOffStep(States.stashed(3, 2), 1, 0));
        CHECK.due("its first point is behind the row's blocks", 2, () -> y.count(2));
        CHECK.due("stashed as before", 1, () -> y.count(4));
        WideningArray z = started(States.cutOffStep(States.stashed(3, 2), 2, 0x0010));
        CHECK.due("its second one is behind the marks", 3, () -> z.count(2));
        CHECK.due("not stashed", 0, () -> z.count(4));
        // Half of row 0 is laid anew; the step lays it from the stash, not from the old row.
        WideningArray w = started(States.cutOffStep(States.stashed(4, 0), 1, 0x10000));
        CHECK.due("a step from the stash", 1, w::step);
        CHECK.cells("a step from the stash", w, 0, 1, 2, 3, 4, 1 ^ 2 ^ 3 ^ 4);
    }

    private static void thirtyTwoAreDone() {
        for (int k = 3; k <= 5; k++) {
            int n = k;
            WideningArray x = States.widened(n, 31);
            CHECK.counts("31 are done", x, n + 1, 32 * (n - 1), 31, 1, 0, -1, -1, 0);
            CHECK.due("the last step", 0, x::step);
            CHECK.counts("32 are done", x, n + 1, 32 * n, 0, 0, 0, -1, -1, 0);
            WideningArray y = States.stashed(n, 31);
            CHECK.due("the last step, stashed", 0, y::step);
            CHECK.counts("32 are done, stashed", y, n + 1, 32 * n, 0, 0, 0, -1, -1, 0);
            WideningArray z = started(States.cutOffStep(States.widened(n, 31), 4, 1 << 4 * n));
            CHECK.counts("told by the marks of one disk", z, n + 1, 32 * n, 0, 0, 0, -1, -1, 0);
        }
    }

    // Power

    private static void callsWithoutWrites() {
        WideningArray x = States.toFail(States.stashed(3, 2), 1, 0);
        CHECK.due("read", 1, () -> x.read(0, 0));
        CHECK.due("a write in the window", false, () -> x.write(6, 0, 1));
        CHECK.due("a write in the window", false, () -> x.write(8, 3, 1));
        CHECK.due("good", true, () -> x.good(0));
        CHECK.due("layout", 1, () -> x.layout(0));
        CHECK.due("cell", 1, () -> x.cell(0, 0, 0));
        CHECK.due("marks", 7, () -> x.marks(0, 1));
        CHECK.due("count", 0, () -> x.count(7));
        CHECK.outOfBounds("a refused write", () -> x.write(64, 0, 1));
        CHECK.illegalArgument("a refused widen", x::widen);
        CHECK.illegalArgument("a refused lose", Check.plain(() -> x.lose(0)));
        CHECK.illegalArgument("a refused replace", x::replace);
        CHECK.illegalArgument("a refused rebuild", x::rebuild);
        CHECK.illegalState("a refused start", x::start);
        CHECK.illegalArgument("a refused format", () -> x.format(2));
        CHECK.powerFails("a call that issues writes", () -> x.write(9, 0, 1));
        CHECK.due("start", 2, x::start);
        CHECK.due("and no call behind it", true, () -> x.write(9, 0, 1));
        CHECK.powerFails("widen issues writes", States.toFail(States.made(3), 1, 0)::widen);
        CHECK.powerFails("a step does", States.toFail(States.widened(3, 0), 1, 0)::step);
        CHECK.powerFails("a stashed step does", States.toFail(States.stashed(3, 0), 1, 0)::step);
        WideningArray y = States.toFail(States.made(3), 1, 0);
        CHECK.illegalArgument("a refused step", y::step);
        CHECK.powerFails("a write", () -> y.write(0, 0, 1));
    }

    private static void eachWaitingPoint() {
        // The window is blocks 3, 4, 5; disk 0 has block 3 in old row 1, and block 4 in the new one.
        int[][] want = {{0, 2, 3, 4}, {0, 5, 3, 4}, {1, 5, 5, 4}, {1, 5, 5, 5}};
        for (int w = 1; w <= 4; w++) {
            WideningArray x = started(States.cutOffStep(States.widened(3, 1), w, 0));
            int[] due = want[w - 1];
            CHECK.due("point " + w + ": stashed", due[0], () -> x.count(4));
            CHECK.due("point " + w + ": the stash", due[1], () -> x.cell(0, 33, 0));
            CHECK.due("point " + w + ": the marks with stashed", due[2], () -> x.marks(0, 1));
            CHECK.due("point " + w + ": the row", due[3], () -> x.cell(0, 1, 0));
        }
        WideningArray y = started(States.cutOffStep(States.stashed(3, 1), 1, 0));
        CHECK.due("stashed, point 1: the row is old", 4, () -> y.cell(0, 1, 0));
        WideningArray z = started(States.cutOffStep(States.stashed(3, 1), 2, 0));
        CHECK.due("stashed, point 2: the row is new", 5, () -> z.cell(0, 1, 0));
        CHECK.due("stashed, point 2: no marks", 1, () -> z.count(4));
    }

    private static void behindTheLastPoint() {
        int[] behindFour = {5, 6, 100, Integer.MAX_VALUE};
        for (int w : behindFour) {
            WideningArray x = started(States.cutOffStep(States.widened(3, 1), w, 0x10));
            CHECK.marks("a step's last one, w " + w, x, 0, 4, 6, 4, 4);
        }
        int[] behindTwo = {3, 4, 5, Integer.MAX_VALUE};
        for (int w : behindTwo) {
            WideningArray x = started(States.cutOffStep(States.stashed(3, 1), w, 0x10));
            CHECK.marks("a stashed step's last one, w " + w, x, 0, 4, 6, 4, 4);
        }
        int[] behindOne = {2, 3, 4, Integer.MAX_VALUE};
        for (int w : behindOne) {
            WideningArray x = started(States.cutOffWiden(States.made(3), w, 0x10));
            CHECK.marks("widen's last one, w " + w, x, 0, 0, 2, 0, 0);
            WideningArray y = States.toFail(States.made(3), w, 0x1);
            CHECK.powerFails("write, w " + w, () -> y.write(0, 0, 5));
            CHECK.due("start", 0, y::start);
            CHECK.due("a write's last one, w " + w, 5, () -> y.read(0, 0));
        }
    }

    private static void sharesOfEachDisk() {
        // One write, the marks, waits on each of six disks: an odd share lets it be done.
        int[] all = {0x000001, 0x000010, 0x000100, 0x001000, 0x010000, 0x100000, 0x111111, 0x0f0f01,
            0xf0f0f0, -1, -2, Integer.MAX_VALUE, 0x80000001, 0xff000001, 0x7f100000};
        for (int c : all) {
            WideningArray x = started(States.cutOffWiden(States.made(5), 1, c));
            for (int d = 0; d < 6; d++) {
                int disk = d;
                int odd = Integer.parseInt("0" + hexDigit(c, d), 16) % 2;
                CHECK.due("crash(1, " + c + "), disk " + d, 2 * odd, () -> x.marks(disk, 0));
            }
        }
        int[] none = {0, Integer.MIN_VALUE, 0xff000000, 0x7e000000, 0x1000000};
        for (int c : none) {
            WideningArray x = States.cutOffWiden(States.made(5), 1, c);
            CHECK.due("crash(1, " + c + ") has a share for no disk", 0, x::start);
        }
    }

    private static char hexDigit(int c, int fromBehind) {
        String digits = String.format("%08x", c);
        return digits.charAt(7 - fromBehind);
    }

    private static void moreThanWait() {
        for (int n = 3; n <= 5; n++) {
            for (int share = 0; share <= 15; share++) {
                WideningArray x = started(States.cutOffStep(States.widened(n, 0), 1, share << 4 * n));
                int done = share;
                while (done > n) {
                    done -= n + 1;
                }
                for (int i = 0; i < n; i++) {
                    int row = 32 + i;
                    CHECK.due(share + " of " + n, i < done ? i + 1 : 0, () -> x.cell(x.count(0) - 1, row, 0));
                }
            }
        }
        for (int share = 0; share <= 15; share++) {
            WideningArray x = started(States.cutOffWrite(States.made(4), 0, 9, share));
            CHECK.due(share + " of one", share % 2 == 1 ? 9 : 0, () -> x.read(0, 0));
            WideningArray y = started(States.cutOffWrite(States.made(4), 0, 9, share << 4));
            CHECK.due(share + " of none", 0, () -> y.read(0, 0));
        }
    }

    private static void untilStart() {
        WideningArray x = States.toFail(States.filled(3), 1, 0);
        CHECK.powerFails("the call", () -> x.write(0, 0, 5));
        for (int again = 0; again < 3; again++) {
            CHECK.due("count", 1, () -> x.count(7));
            CHECK.illegalState("write", () -> x.write(0, 0, 5));
            CHECK.illegalState("read", () -> x.read(0, 0));
            CHECK.illegalState("widen", x::widen);
        }
        CHECK.due("start", 0, x::start);
        CHECK.due("count behind it", 0, () -> x.count(7));
        CHECK.due("read behind it", 1, () -> x.read(0, 0));
        CHECK.due("write behind it", true, () -> x.write(0, 0, 5));
        WideningArray y = States.withoutPower();
        CHECK.due("format", 96, () -> y.format(4));
    }

    // Start

    private static void oneCopyIsEnough() {
        for (int d = 0; d <= 4; d++) {
            int here = 1 << 4 * d;
            WideningArray x = States.cutOffWiden(States.filled(4), 1, here);
            CHECK.due("widen's marks on disk " + d, 1, x::start);
            CHECK.counts("widen's marks on disk " + d, x, 5, 96, 0, 1, 0);
            WideningArray y = States.cutOffStep(States.widened(4, 3), 2, here);
            CHECK.due("stashed marks on disk " + d, 2, y::start);
            CHECK.counts("stashed marks on disk " + d, y, 5, 96, 3, 1, 1);
            WideningArray z = States.cutOffStep(States.widened(4, 3), 4, here);
            CHECK.due("a row's marks on disk " + d, 1, z::start);
            CHECK.counts("a row's marks on disk " + d, z, 5, 96, 4, 1, 0);
            WideningArray w = States.cutOffStep(States.widened(4, 31), 4, here);
            CHECK.due("the last marks on disk " + d, 0, w::start);
            CHECK.counts("the last marks on disk " + d, w, 5, 128, 0, 0, 0);
        }
        WideningArray none = States.cutOffWiden(States.filled(4), 1, 0);
        CHECK.due("marks on no disk", 0, none::start);
        CHECK.counts("marks on no disk", none, 4, 96, 0, 0, 0);
        // Marks 9 (stashed, on disk 1 alone) are followed by 10 (a row more, on disk 4 alone).
        WideningArray two = started(States.cutOffStep(States.widened(4, 3), 2, 0x10));
        started(States.cutOffStep(two, 2, 0x10000));
        CHECK.counts("the highest of two single copies", two, 5, 96, 4, 1, 0);
    }

    private static void parityIsMadeRight() {
        for (int n = 3; n <= 6; n++) {
            int[] some = {0, n - 2, n - 1, 32 * (n - 1) - 1};
            for (int b : some) {
                int row = b / (n - 1);
                int parity = byHand(n, row)[n - 1];
                int data = byHand(n, row)[b % (n - 1)];
                WideningArray x = started(States.cutOffWrite(States.filled(n), b, 999, 1 << 4 * data));
                dueRight("the block alone is written", x, n, row, b, 999, parity);
                WideningArray y = started(States.cutOffWrite(States.filled(n), b, 999, 1 << 4 * parity));
                dueRight("its parity alone is written", y, n, row, b, b + 1, parity);
            }
        }
    }

    private static void dueRight(String what, WideningArray x, int n, int row, int b, int v, int parity) {
        int sum = v;
        for (int other = row * (n - 1); other < (row + 1) * (n - 1); other++) {
            sum ^= other == b ? 0 : other + 1;
        }
        CHECK.due(what + ": parity", sum, () -> x.cell(parity, row, 0));
        CHECK.due(what + ": good", true, () -> x.good(row));
        CHECK.due(what + ": read", v, () -> x.read(b, 0));
    }

    private static void rowDoneIsLeft() {
        int[] all = {0, 2, 21, 31};
        for (int done : all) {
            // A layout of four in this row, of which only the disks 0 and 1 have done their writes.
            WideningArray before = States.stashed(3, done);
            WideningArray x = States.cutOffStep(States.stashed(3, done), 1, 0x0011);
            CHECK.due("start", 2, x::start);
            WideningArray after = States.stashed(3, done);
            after.step();
            int[] want = {after.cell(0, done, 0), after.cell(1, done, 0),
                before.cell(2, done, 0), before.cell(3, done, 0)};
            CHECK.cells("row " + done + " is left half laid", x, done, want);
            CHECK.due("and told from the stash", Math.min(3 * done, 63) + 1,
                    () -> x.read(Math.min(3 * done, 63), 0));
        }
        // Parity of row 2 by three disks would be on disk 0, by four on disk 1.
        WideningArray y = started(States.cutOffStep(States.stashed(3, 2), 1, 0x0100));
        CHECK.cells("row 2, by neither layout", y, 2, 5 ^ 6, 5, 7, 0);
    }

    private static void parityOnBothSidesOfDone() {
        WideningArray x = States.widened(3, 1);
        // Row 0, the last below done: four disks, block 2 on disk 2, the parity on disk 3.
        started(States.cutOffWrite(x, 2, 100, 0x0100));
        CHECK.cells("row done - 1", x, 0, 1, 2, 100, 1 ^ 2 ^ 100);
        // Row done: three disks, block 3 on disk 0, block 2 as it was on disk 2, the parity on disk 1.
        started(States.cutOffWrite(x, 3, 200, 0x0001));
        CHECK.cells("row done", x, 1, 200, 200 ^ 3, 3, 0);
        // Row 31: three disks, block 63 on disk 0, block 62 on disk 2, the parity on disk 1.
        started(States.cutOffWrite(x, 63, 300, 0x0001));
        CHECK.cells("row 31", x, 31, 300, 300 ^ 63, 63, 0);

        WideningArray y = States.stashed(3, 1);
        started(States.cutOffWrite(y, 2, 100, 0x0100));
        CHECK.cells("row done - 1, stashed", y, 0, 1, 2, 100, 1 ^ 2 ^ 100);
        // Row 3: three disks, block 6 on disk 0, block 7 on disk 1, the parity on disk 2.
        started(States.cutOffWrite(y, 6, 400, 0x0001));
        CHECK.cells("a row above, stashed", y, 3, 400, 8, 400 ^ 8, 0);

        WideningArray z = States.widened(3, 31);
        // Row 21, the last with blocks: four disks, block 63 on disk 3, the parity on disk 2.
        started(States.cutOffWrite(z, 63, 500, 0x1000));
        CHECK.cells("below 31", z, 21, 0, 0, 500, 500);
        // Row 31 is old as yet: blocks 63, 62 on disks 0, 2, the parity on disk 1.
        CHECK.cells("row 31 is left as it is", z, 31, 64, 63 ^ 64, 63, 0);
        z.step();
        started(States.cutOffWrite(z, 95, 600, 0x1000));
        CHECK.cells("at the end", z, 31, 600, 0, 0, 600);
    }

    // Lost disks

    private static void toldByTheRest() {
        for (int n = 3; n <= 6; n++) {
            for (int d = 0; d < n; d++) {
                WideningArray x = States.lost(States.filled(n), d);
                for (int b = 0; b < 32 * (n - 1); b++) {
                    CHECK.words("of " + n + " without " + d, x, b, b + 1);
                }
            }
        }
        for (int n = 3; n <= 5; n++) {
            for (int d = 0; d <= n; d++) {
                WideningArray x = States.lost(States.widened(n, 9), d);
                for (int b = 0; b < 32 * (n - 1); b++) {
                    CHECK.words("widened from " + n + " without " + d, x, b, b + 1);
                }
            }
        }
    }

    private static void toldByTheOtherCopy() {
        for (int n = 3; n <= 5; n++) {
            for (int d = 0; d <= n; d++) {
                // The row's blocks are laid anew on half of the disks, so that no row tells them.
                WideningArray x = started(States.cutOffStep(States.stashed(n, 9), 1, 0x010101));
                x.lose(d);
                for (int b = 9 * n; b < 10 * n; b++) {
                    CHECK.words("the window of " + n + " without " + d, x, b, b + 1);
                    CHECK.layouts("the window of " + n + " without " + d, x, b, 2);
                }
                x.replace();
                for (int b = 9 * n; b < 10 * n; b++) {
                    CHECK.words("the window of " + n + ", " + d + " replaced", x, b, b + 1);
                }
                CHECK.due("a step from one copy", 10, x::step);
                for (int b = 9 * n; b < 10 * n; b++) {
                    CHECK.words("laid from one copy of " + n + ", " + d + " replaced", x, b, b + 1);
                }
            }
        }
    }

    private static void replacedIsAsIfLost() {
        for (int d = 0; d <= 3; d++) {
            int gone = d;
            WideningArray x = States.replaced(States.widened(3, 1), d);
            for (int row = 0; row < 40; row++) {
                int at = row;
                CHECK.due("it is empty", 0, () -> x.cell(gone, at, 0));
            }
            CHECK.due("without marks", 0, () -> x.marks(gone, 0) + x.marks(gone, 1));
            for (int b = 0; b < 64; b++) {
                CHECK.words("it tells nothing", x, b, b + 1);
            }
            for (int b = 0; b < 3; b++) {
                CHECK.due("write of a block of row 0", true, write(x, b, 100 + b));
            }
            CHECK.due("step", 2, x::step);
            int[] want = {100, 101, 102, 100 ^ 101 ^ 102};
            int part = want[d];
            want[d] = 0;
            CHECK.cells("it does not write its block", x, 0, want);
            CHECK.due("nor the stash", 0, () -> x.cell(gone, 32, 0));
            CHECK.due("nor the marks", 0, () -> x.marks(gone, 0) + x.marks(gone, 1));
            CHECK.words("all is there", x, 0, 100, 101, 102, 4, 5, 6, 7);
            x.rebuild();
            CHECK.due("until it is rebuilt", part, () -> x.cell(gone, 0, 0));
            CHECK.due("a write then", true, write(x, 0, 1000));
            CHECK.due("a write then", true, write(x, 1, 1001));
            CHECK.due("a write then", true, write(x, 2, 1002));
            CHECK.cells("is done", x, 0, 1000, 1001, 1002, 1000 ^ 1001 ^ 1002);
        }
    }

    private static void atMostOne() {
        for (int d = 0; d < 4; d++) {
            int other = d;
            CHECK.leaves("lose(" + d + ") when 1 is lost", Check.ILLEGAL_ARGUMENT,
                    () -> States.lost(States.filled(4), 1), x -> lose(x, other));
            CHECK.leaves("lose(" + d + ") when 1 is replaced", Check.ILLEGAL_ARGUMENT,
                    () -> States.replaced(States.filled(4), 1), x -> lose(x, other));
        }
        WideningArray x = States.lost(States.rebuilt(States.filled(4), 1), 2);
        CHECK.counts("another one when it is rebuilt", x, 4, 96, 0, 0, 0, 2, -1, 0);
        WideningArray y = States.replaced(States.filled(4), 1);
        CHECK.counts("it is lost or replaced, not both", y, 4, 96, 0, 0, 0, -1, 1, 0);
    }

    private static Object lose(WideningArray x, int d) {
        x.lose(d);
        return "nothing";
    }

    // Exceptions

    private static void noArray() {
        allThrow(WideningArray::new);
        CHECK.leaves("start", Check.ILLEGAL_STATE, WideningArray::new, WideningArray::start);
        CHECK.leaves("count", -1, WideningArray::new, x -> x.count(0));
        CHECK.due("format", 64, () -> new WideningArray().format(3));
    }

    private static void noPower() {
        allThrow(() -> States.withoutPower(States.filled(3)));
        allThrow(() -> States.cutOffStep(States.widened(3, 4), 3, 0x0101));
        CHECK.due("start", 0, States.withoutPower()::start);
        CHECK.due("count", -1, () -> States.withoutPower().count(0));
        CHECK.due("format", 64, () -> States.withoutPower().format(3));
    }

    /** With arguments that are right, and with wrong ones. */
    private static void allThrow(Sight.State state) {
        int[] arguments = {0, -1};
        for (int a : arguments) {
            CHECK.leaves("write", Check.ILLEGAL_STATE, state, x -> x.write(a, a, 1));
            CHECK.leaves("read", Check.ILLEGAL_STATE, state, x -> x.read(a, a));
            CHECK.leaves("lose", Check.ILLEGAL_STATE, state, x -> lose(x, a));
            CHECK.leaves("crash", Check.ILLEGAL_STATE, state, x -> crash(x, a + 1));
            CHECK.leaves("good", Check.ILLEGAL_STATE, state, x -> x.good(a));
            CHECK.leaves("layout", Check.ILLEGAL_STATE, state, x -> x.layout(a));
            CHECK.leaves("cell", Check.ILLEGAL_STATE, state, x -> x.cell(a, a, a));
            CHECK.leaves("marks", Check.ILLEGAL_STATE, state, x -> x.marks(a, a));
        }
        CHECK.leaves("widen", Check.ILLEGAL_STATE, state, WideningArray::widen);
        CHECK.leaves("step", Check.ILLEGAL_STATE, state, WideningArray::step);
        CHECK.leaves("replace", Check.ILLEGAL_STATE, state, WideningArray::replace);
        CHECK.leaves("rebuild", Check.ILLEGAL_STATE, state, WideningArray::rebuild);
    }

    private static Object crash(WideningArray x, int w) {
        x.crash(w, 0);
        return "nothing";
    }

    private static void theFirstOneTold() {
        // IndexOutOfBoundsException stands before UnsupportedOperationException.
        Sight.State toFail = () -> States.toFail(States.widened(3, 2), 3, 0x0101);
        CHECK.leaves("no such block, power to fail", Check.OUT_OF_BOUNDS, toFail, x -> x.write(64, 0, 1));
        CHECK.leaves("no such word, power to fail", Check.OUT_OF_BOUNDS, toFail, x -> x.write(0, 4, 1));
        // IllegalArgumentException stands before it, too.
        CHECK.leaves("widened, power to fail", Check.ILLEGAL_ARGUMENT, toFail, WideningArray::widen);
        CHECK.leaves("not widened, power to fail", Check.ILLEGAL_ARGUMENT,
                () -> States.toFail(States.filled(3), 2, 0), WideningArray::step);
        CHECK.leaves("six disks, power to fail", Check.ILLEGAL_ARGUMENT,
                () -> States.toFail(States.made(6), 2, 0), WideningArray::widen);
        // IndexOutOfBoundsException stands before IllegalArgumentException.
        CHECK.leaves("no such disk, power to fail", Check.OUT_OF_BOUNDS, toFail, x -> lose(x, 4));
        Sight.State lost = () -> States.lost(States.widened(3, 2), 1);
        CHECK.leaves("no such disk, one lost", Check.OUT_OF_BOUNDS, lost, x -> lose(x, 4));
        CHECK.leaves("no such disk, one lost", Check.OUT_OF_BOUNDS, lost, x -> lose(x, -1));
        CHECK.leaves("no such row, one lost", Check.OUT_OF_BOUNDS, lost, x -> x.good(32));
        CHECK.leaves("no such row, one lost", Check.OUT_OF_BOUNDS, lost, x -> x.good(-1));
        Sight.State replaced = () -> States.replaced(States.widened(3, 2), 1);
        CHECK.leaves("no such disk, one replaced", Check.OUT_OF_BOUNDS, replaced, x -> lose(x, 4));
        CHECK.leaves("no such row, one replaced", Check.OUT_OF_BOUNDS, replaced, x -> x.good(32));
        // A block of the window is no exception, but a word that is not there is.
        CHECK.leaves("no such word in the window", Check.OUT_OF_BOUNDS,
                () -> States.stashed(3, 2), x -> x.write(6, 4, 1));
    }
}
