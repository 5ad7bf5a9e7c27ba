/** Each sentence of the promises 1 to 16 that names a boundary case has a test of its own here. */
public final class EdgesTest {
    private static final Check CHECK = new Check("EdgesTest");
    private static final int LEAST = Integer.MIN_VALUE;
    private static final int MOST = Integer.MAX_VALUE;

    public static void main(String[] args) {
        newObjectAndFormat();
        writeAndRead();
        widenAndStep();
        loseReplaceRebuild();
        crashAndStart();
        goodAndLayout();
        cellMarksCount();
        CHECK.end();
    }

    private static void newObjectAndFormat() {
        CHECK.sentence("1: No array.", EdgesTest::noArray);
        CHECK.sentence("2: A new array of n empty disks", EdgesTest::formatForgetsAll);
        CHECK.sentence("2: its marks (number 1) on all of them", EdgesTest::firstMarks);
        CHECK.sentence("2: its capacity", EdgesTest::formatTellsTheCapacity);
        CHECK.sentence("2: when n is not 3 .. 6", EdgesTest::formatOfTooFewOrTooMany);
    }

    private static void writeAndRead() {
        CHECK.sentence("3: A word (i is 0 .. 3) of a block is another one from now on: true",
                EdgesTest::everyWordIsWritten);
        CHECK.sentence("3: or false, and nothing is changed, when it is in the window",
                EdgesTest::writeInTheWindow);
        CHECK.sentence("3: when there is no such block", EdgesTest::writeOfNoBlock);
        CHECK.sentence("3: or word", EdgesTest::writeOfNoWord);
        CHECK.sentence("3: when power fails", EdgesTest::writeWithoutPower);
        CHECK.sentence("4: A word of a block.", EdgesTest::everyWordIsRead);
        CHECK.sentence("4: when there is no such block", EdgesTest::readOfNoBlock);
        CHECK.sentence("4: or word", EdgesTest::readOfNoWord);
    }

    private static void widenAndStep() {
        CHECK.sentence("5: by an empty disk", EdgesTest::theAddedDiskIsEmpty);
        CHECK.sentence("5: how many disks there are then", EdgesTest::widenTellsTheDisks);
        CHECK.sentence("5: when it is widened already", EdgesTest::widenTwice);
        CHECK.sentence("5: has 6 disks", EdgesTest::widenOfSix);
        CHECK.sentence("5: or a disk is lost", EdgesTest::widenWithALostDisk);
        CHECK.sentence("5: or not rebuilt", EdgesTest::widenWithAReplacedDisk);
        CHECK.sentence("5: when power fails", EdgesTest::widenWithoutPower);
        CHECK.sentence("6: how many rows are done then (0 when it is at the end)",
                EdgesTest::stepTellsTheRows);
        CHECK.sentence("6: when it is not widened", EdgesTest::stepOfNoWidenedArray);
        CHECK.sentence("6: when power fails", EdgesTest::stepWithoutPower);
    }

    private static void loseReplaceRebuild() {
        CHECK.sentence("7: A disk is lost.", EdgesTest::anyDiskCanBeLost);
        CHECK.sentence("7: when there is no such disk", EdgesTest::loseNoDisk);
        CHECK.sentence("7: when one is lost", EdgesTest::loseASecond);
        CHECK.sentence("7: or not rebuilt", EdgesTest::loseBesideAReplacedOne);
        CHECK.sentence("7: or power is to fail", EdgesTest::loseWhenPowerIsToFail);
        CHECK.sentence("8: is replaced by an empty one: which", EdgesTest::anyDiskCanBeReplaced);
        CHECK.sentence("8: when none is lost", EdgesTest::replaceNone);
        CHECK.sentence("9: The replaced disk is rebuilt: which", EdgesTest::anyDiskCanBeRebuilt);
        CHECK.sentence("9: when none is replaced", EdgesTest::rebuildNone);
        CHECK.sentence("9: Rows that it has no part in .. are left as they are",
                EdgesTest::rebuildLeavesOldRows);
        CHECK.sentence("9: and row done, when it is stashed", EdgesTest::rebuildLeavesRowDone);
        CHECK.sentence("9: marks come to their place", EdgesTest::rebuiltMarks);
        CHECK.sentence("9: the other one stays empty", EdgesTest::rebuildLeavesTheOtherPlace);
        CHECK.sentence("9: the stash, when it is stashed", EdgesTest::rebuiltStash);
    }

    private static void crashAndStart() {
        CHECK.sentence("10: (in place of what was told before)", EdgesTest::crashInPlaceOfAnother);
        CHECK.sentence("10: when w is below 1", EdgesTest::crashBelowOne);
        CHECK.sentence("10: or a disk is lost", EdgesTest::crashWithALostDisk);
        CHECK.sentence("10: or not rebuilt", EdgesTest::crashWithAReplacedDisk);
        CHECK.sentence("11: 0 not widened, 1 widened, 2 and stashed", EdgesTest::startTellsHowThingsAre);
        CHECK.sentence("11: when power has not failed", EdgesTest::startWithPower);
    }

    private static void goodAndLayout() {
        CHECK.sentence("12: Whether a data row's parity is right in its layout.", EdgesTest::goodRows);
        CHECK.sentence("12: when there is no such row", EdgesTest::goodOfNoRow);
        CHECK.sentence("12: when a disk is lost", EdgesTest::goodWithALostDisk);
        CHECK.sentence("12: or not rebuilt", EdgesTest::goodWithAReplacedDisk);
        CHECK.sentence("12: or it is row done, and stashed", EdgesTest::goodOfRowDone);
        CHECK.sentence("13: 0 in the layout of n disks, 1 in the new one, 2 in the window",
                EdgesTest::layoutOfEachBlock);
        CHECK.sentence("13: when there is no such block", EdgesTest::layoutOfNoBlock);
    }

    private static void cellMarksCount() {
        CHECK.sentence("14: as it is there, whatever it means", EdgesTest::cellsThatMeanNothing);
        CHECK.sentence("14: (0 on a lost one)", EdgesTest::cellsOfALostDisk);
        CHECK.sentence("14: when there is no such disk", EdgesTest::cellOfNoDisk);
        CHECK.sentence("14: row (0 .. 39)", EdgesTest::cellOfNoRow);
        CHECK.sentence("14: or word", EdgesTest::cellOfNoWord);
        CHECK.sentence("15: with an odd number (place 1), or with an even one (0)",
                EdgesTest::marksOfBothPlaces);
        CHECK.sentence("15: when there is no such disk", EdgesTest::marksOfNoDisk);
        CHECK.sentence("15: or place", EdgesTest::marksOfNoPlace);
        CHECK.sentence("16: Disks, the added one too (0)", EdgesTest::countOfDisks);
        CHECK.sentence("16: capacity (1)", EdgesTest::countOfBlocks);
        CHECK.sentence("16: rows done (2)", EdgesTest::countOfRowsDone);
        CHECK.sentence("16: whether it is widened (3), stashed (4)", EdgesTest::countOfWidenedAndStashed);
        CHECK.sentence("16: the disk that is lost (5), the one that is replaced (6; NONE without)",
                EdgesTest::countOfLostAndReplaced);
        CHECK.sentence("16: whether power has failed (7)", EdgesTest::countOfPower);
        CHECK.sentence("16: NONE for another what", EdgesTest::countOfAnotherWhat);
        CHECK.sentence("16: and for all but 7 when there is no array", EdgesTest::countOfNoArray);
        CHECK.sentence("16: or power has failed", EdgesTest::countWithoutPower);
    }

    // Calls without an answer, as questions

    private static Object lose(WideningArray x, int d) {
        x.lose(d);
        return "nothing";
    }

    private static Object crash(WideningArray x, int w, int c) {
        x.crash(w, c);
        return "nothing";
    }

    private static WideningArray started(WideningArray x) {
        x.start();
        return x;
    }

    private static Check.Call word(WideningArray x, int b, int i) {
        return () -> x.read(b, i);
    }

    // Promise 1

    private static void noArray() {
        Sight.State none = WideningArray::new;
        CHECK.counts("a new object", none.make(), -1, -1, -1, -1, -1, -1, -1, 0);
        CHECK.leaves("write", Check.ILLEGAL_STATE, none, x -> x.write(0, 0, 1));
        CHECK.leaves("read", Check.ILLEGAL_STATE, none, x -> x.read(0, 0));
        CHECK.leaves("widen", Check.ILLEGAL_STATE, none, WideningArray::widen);
        CHECK.leaves("step", Check.ILLEGAL_STATE, none, WideningArray::step);
        CHECK.leaves("lose", Check.ILLEGAL_STATE, none, x -> lose(x, 0));
        CHECK.leaves("replace", Check.ILLEGAL_STATE, none, WideningArray::replace);
        CHECK.leaves("rebuild", Check.ILLEGAL_STATE, none, WideningArray::rebuild);
        CHECK.leaves("crash", Check.ILLEGAL_STATE, none, x -> crash(x, 1, 0));
        CHECK.leaves("start", Check.ILLEGAL_STATE, none, WideningArray::start);
        CHECK.leaves("good", Check.ILLEGAL_STATE, none, x -> x.good(0));
        CHECK.leaves("layout", Check.ILLEGAL_STATE, none, x -> x.layout(0));
        CHECK.leaves("cell", Check.ILLEGAL_STATE, none, x -> x.cell(0, 0, 0));
        CHECK.leaves("marks", Check.ILLEGAL_STATE, none, x -> x.marks(0, 0));
    }

    // Promise 2

    /** Whatever an object was used for, it is as a new one is behind format(). */
    private static void formatForgetsAll() {
        Sight.State[] used = {
            () -> States.filled(6),
            () -> States.widened(5, 9),
            () -> States.stashed(4, 9),
            () -> States.lost(States.filled(4), 3),
            () -> States.replaced(States.widened(3, 4), 0),
            () -> States.toFail(States.filled(3), 1, 0),
            () -> States.toFail(States.widened(3, 4), 3, 0x0101),
            () -> States.withoutPower(States.filled(3)),
            () -> States.cutOffStep(States.widened(5, 3), 3, 0x010101),
        };
        for (int k = 3; k <= 6; k++) {
            int n = k;
            for (int u = 0; u < used.length; u++) {
                Sight.State before = used[u];
                CHECK.same("format(" + n + ") of used object " + u, "", Sight.difference(
                        Sight.of(() -> States.made(n)),
                        Sight.of(() -> Check.called(before, x -> x.format(n)))));
            }
        }
    }

    private static void firstMarks() {
        CHECK.marks("3 disks", States.made(3), 1, 1, 1, 1);
        CHECK.marks("6 disks", States.made(6), 1, 1, 1, 1, 1, 1, 1);
        CHECK.marks("6 disks", States.made(6), 0, 0, 0, 0, 0, 0, 0);
        WideningArray x = States.widened(3, 2);
        x.format(4);
        CHECK.marks("4 disks anew", x, 1, 1, 1, 1, 1);
        CHECK.marks("4 disks anew", x, 0, 0, 0, 0, 0);
    }

    private static void formatTellsTheCapacity() {
        WideningArray x = new WideningArray();
        CHECK.due("format(3)", 64, () -> x.format(3));
        CHECK.due("format(4)", 96, () -> x.format(4));
        CHECK.due("format(5)", 128, () -> x.format(5));
        CHECK.due("format(6)", 160, () -> x.format(6));
    }

    private static void formatOfTooFewOrTooMany() {
        Sight.State[] states = {
            WideningArray::new,
            () -> States.filled(3),
            () -> States.stashed(3, 4),
            () -> States.lost(States.filled(3), 1),
            () -> States.replaced(States.filled(3), 1),
            () -> States.toFail(States.filled(3), 1, 0x0010),
            () -> States.withoutPower(States.filled(3)),
        };
        int[] wrong = {2, 7, 1, 0, -1, -3, 1 << 30, LEAST, MOST};
        for (Sight.State state : states) {
            for (int n : wrong) {
                CHECK.leaves("format(" + n + ")", Check.ILLEGAL_ARGUMENT, state, x -> x.format(n));
            }
        }
        CHECK.due("three are enough", 64, () -> new WideningArray().format(3));
        CHECK.due("six are not too many", 160, () -> new WideningArray().format(6));
    }

    // Promise 3

    private static void everyWordIsWritten() {
        int[] values = {1, -1, LEAST, MOST, 0};
        for (int n = 3; n <= 6; n++) {
            int last = 32 * (n - 1) - 1;
            for (int i = 0; i <= 3; i++) {
                WideningArray x = States.filled(n);
                for (int v : values) {
                    dueWritten(x, 0, i, v);
                    dueWritten(x, last, i, v);
                    dueWritten(x, last, i, v);
                }
                CHECK.words("the blocks beside", x, 1, 2, 3);
                CHECK.words("the blocks beside", x, last - 2, last - 1, last);
                for (int other = 0; other <= 3; other++) {
                    int was = other == i || other > 0 ? 0 : 1;
                    CHECK.due("the words beside", was, word(x, 0, other));
                }
            }
        }
    }

    private static void dueWritten(WideningArray x, int b, int i, int v) {
        String call = "write(" + b + ", " + i + ", " + v + ")";
        CHECK.due(call, true, () -> x.write(b, i, v));
        CHECK.due("read behind " + call, v, () -> x.read(b, i));
    }

    private static void writeInTheWindow() {
        Sight.State[] states = {
            () -> States.stashed(3, 5),
            () -> States.toFail(States.stashed(3, 5), 1, 0x0011),
            () -> States.toFail(States.stashed(3, 5), 2, 0x0011),
            () -> States.lost(States.stashed(3, 5), 0),
            () -> States.replaced(States.stashed(3, 5), 3),
        };
        for (Sight.State state : states) {
            for (int b = 15; b <= 17; b++) {
                int block = b;
                CHECK.leaves("write(" + b + ", 0, 77)", false, state, x -> x.write(block, 0, 77));
                CHECK.leaves("write(" + b + ", 3, 77)", false, state, x -> x.write(block, 3, 77));
            }
        }
        WideningArray x = States.stashed(3, 5);
        CHECK.due("the block below it", true, () -> x.write(14, 0, 77));
        CHECK.due("the block above it", true, () -> x.write(18, 0, 78));
        CHECK.words("round the window", x, 13, 14, 77, 16, 17, 18, 78, 20);
        // The window of row 21 has one block below the capacity of 64.
        CHECK.leaves("the window's only block", false, () -> States.stashed(3, 21), y -> y.write(63, 0, 77));
        CHECK.due("not stashed", true, () -> States.widened(3, 5).write(15, 0, 77));
    }

    private static void writeOfNoBlock() {
        for (Sight.State state : statesOfSixtyFour()) {
            int[] wrong = {64, -1, 65, 95, 96, 160, 1 << 30, LEAST, MOST};
            for (int b : wrong) {
                CHECK.leaves("write(" + b + ", 0, 1)", Check.OUT_OF_BOUNDS, state, x -> x.write(b, 0, 1));
            }
        }
        CHECK.due("the first block", true, () -> States.made(3).write(0, 0, 1));
        CHECK.due("the last block", true, () -> States.made(3).write(63, 0, 1));
        CHECK.due("the last block of four", true, () -> States.made(4).write(95, 0, 1));
        CHECK.due("the last block at the end", true, () -> States.widened(3, 32).write(95, 0, 1));
        CHECK.outOfBounds("beyond the end", () -> States.widened(3, 32).write(96, 0, 1));
    }

    /** Arrays of 64 blocks; where they are widened, more are laid out, but not there. */
    private static Sight.State[] statesOfSixtyFour() {
        return new Sight.State[] {
            () -> States.filled(3),
            () -> States.widened(3, 31),
            () -> States.stashed(3, 21),
            () -> States.lost(States.filled(3), 0),
            () -> States.replaced(States.filled(3), 0),
            () -> States.toFail(States.filled(3), 1, 0x0010),
        };
    }

    private static void writeOfNoWord() {
        for (Sight.State state : statesOfSixtyFour()) {
            int[] wrong = {4, -1, 5, 8, LEAST, MOST};
            for (int i : wrong) {
                CHECK.leaves("write(0, " + i + ", 1)", Check.OUT_OF_BOUNDS, state, x -> x.write(0, i, 1));
                CHECK.leaves("write(63, " + i + ", 1)", Check.OUT_OF_BOUNDS, state, x -> x.write(63, i, 1));
            }
        }
        CHECK.due("the first word", true, () -> States.made(3).write(0, 0, 1));
        CHECK.due("the last word", true, () -> States.made(3).write(0, 3, 1));
    }

    private static void writeWithoutPower() {
        for (int n = 3; n <= 6; n++) {
            // In row 0 block 0 is on disk 0, the parity on disk n - 1.
            for (int done = 0; done < 4; done++) {
                WideningArray x = States.toFail(States.filled(n), 1, done & 1 | done >> 1 << 4 * (n - 1));
                CHECK.powerFails("write", () -> x.write(0, 0, 900));
                CHECK.due("power has failed", 1, () -> x.count(7));
                CHECK.due("start", 0, x::start);
                CHECK.words("either word", x, 0, (done & 1) == 1 ? 900 : 1, 2);
                CHECK.due("a good row", true, () -> x.good(0));
            }
        }
    }

    // Promise 4

    private static void everyWordIsRead() {
        WideningArray x = States.made(6);
        for (int i = 0; i <= 3; i++) {
            x.write(0, i, 10 + i);
            x.write(159, i, 20 + i);
        }
        for (int i = 0; i <= 3; i++) {
            CHECK.due("the first block's word " + i, 10 + i, word(x, 0, i));
            CHECK.due("the last block's word " + i, 20 + i, word(x, 159, i));
            CHECK.due("an empty block's word " + i, 0, word(x, 80, i));
        }
        Sight.State[] everywhere = {
            () -> States.widened(3, 7),
            () -> States.stashed(3, 7),
            () -> States.lost(States.stashed(3, 7), 3),
            () -> States.replaced(States.stashed(3, 7), 0),
            () -> States.toFail(States.stashed(3, 7), 1, 0),
            () -> States.widened(3, 32),
        };
        for (Sight.State state : everywhere) {
            WideningArray y = state.make();
            for (int b = 0; b < 64; b++) {
                CHECK.words("in every layout", y, b, b + 1);
            }
        }
    }

    private static void readOfNoBlock() {
        for (Sight.State state : statesOfSixtyFour()) {
            int[] wrong = {64, -1, 65, 95, 96, 160, 1 << 30, LEAST, MOST};
            for (int b : wrong) {
                CHECK.leaves("read(" + b + ", 0)", Check.OUT_OF_BOUNDS, state, x -> x.read(b, 0));
            }
            CHECK.leaves("read(0, 0)", 1, state, x -> x.read(0, 0));
            CHECK.leaves("read(63, 0)", 64, state, x -> x.read(63, 0));
        }
        CHECK.due("the last block at the end", 0, () -> States.widened(3, 32).read(95, 0));
        CHECK.outOfBounds("beyond the end", () -> States.widened(3, 32).read(96, 0));
    }

    private static void readOfNoWord() {
        for (Sight.State state : statesOfSixtyFour()) {
            int[] wrong = {4, -1, 5, 8, LEAST, MOST};
            for (int i : wrong) {
                CHECK.leaves("read(0, " + i + ")", Check.OUT_OF_BOUNDS, state, x -> x.read(0, i));
                CHECK.leaves("read(63, " + i + ")", Check.OUT_OF_BOUNDS, state, x -> x.read(63, i));
            }
            CHECK.leaves("read(0, 3)", 0, state, x -> x.read(0, 3));
        }
    }

    // Promise 5

    private static void theAddedDiskIsEmpty() {
        WideningArray[] all = {States.filled(3), States.filled(6), States.widened(5, 20)};
        for (WideningArray x : all) {
            x.format(3);
            x.widen();
            dueEmptyButMarks(x, 3, 0);
        }
        WideningArray x = States.widened(3, 32);
        x.widen();
        dueEmptyButMarks(x, 4, 1);
        WideningArray y = started(States.cutOffWiden(States.filled(3), 1, 0));
        y.widen();
        dueEmptyButMarks(y, 3, 0);
    }

    private static void dueEmptyButMarks(WideningArray x, int d, int place) {
        for (int r = 0; r < 40; r++) {
            int row = r;
            CHECK.due("cell(" + d + ", " + r + ", 0)", 0, () -> x.cell(d, row, 0));
            CHECK.due("cell(" + d + ", " + r + ", 3)", 0, () -> x.cell(d, row, 3));
        }
        CHECK.due("its new marks", x.marks(0, place), () -> x.marks(d, place));
        CHECK.due("no other marks", 0, () -> x.marks(d, 1 - place));
    }

    private static void widenTellsTheDisks() {
        CHECK.due("widen of three", 4, States.made(3)::widen);
        CHECK.due("widen of four", 5, States.made(4)::widen);
        CHECK.due("widen of five", 6, States.made(5)::widen);
        WideningArray x = States.widened(3, 32);
        CHECK.due("widen of four that were three", 5, x::widen);
        for (int s = 0; s < 32; s++) {
            x.step();
        }
        CHECK.due("widen of five that were three", 6, x::widen);
        CHECK.due("widen of one with a rebuilt disk", 4, States.rebuilt(States.filled(3), 2)::widen);
    }

    private static void widenTwice() {
        Sight.State[] states = {
            () -> States.widened(3, 0),
            () -> States.widened(4, 7),
            () -> States.widened(3, 31),
            () -> States.stashed(3, 0),
            () -> States.stashed(4, 31),
            () -> States.toFail(States.widened(3, 7), 3, 0x0101),
            () -> started(States.cutOffWiden(States.filled(3), 1, 0x1000)),
        };
        for (Sight.State state : states) {
            CHECK.leaves("widen twice", Check.ILLEGAL_ARGUMENT, state, WideningArray::widen);
        }
    }

    private static void widenOfSix() {
        CHECK.leaves("six from the first", Check.ILLEGAL_ARGUMENT,
                () -> States.filled(6), WideningArray::widen);
        CHECK.leaves("six that were five", Check.ILLEGAL_ARGUMENT,
                () -> States.widened(5, 32), WideningArray::widen);
        CHECK.leaves("five becoming six", Check.ILLEGAL_ARGUMENT,
                () -> States.widened(5, 3), WideningArray::widen);
        CHECK.leaves("six, power to fail", Check.ILLEGAL_ARGUMENT,
                () -> States.toFail(States.filled(6), 1, 0), WideningArray::widen);
    }

    private static void widenWithALostDisk() {
        for (int d = 0; d < 4; d++) {
            int lost = d;
            CHECK.leaves("disk " + d + " is lost", Check.ILLEGAL_ARGUMENT,
                    () -> States.lost(States.filled(4), lost), WideningArray::widen);
        }
    }

    private static void widenWithAReplacedDisk() {
        for (int d = 0; d < 4; d++) {
            int replaced = d;
            CHECK.leaves("disk " + d + " is not rebuilt", Check.ILLEGAL_ARGUMENT,
                    () -> States.replaced(States.filled(4), replaced), WideningArray::widen);
            CHECK.due("disk " + d + " is rebuilt", 5,
                    () -> States.rebuilt(States.filled(4), replaced).widen());
        }
    }

    private static void widenWithoutPower() {
        WideningArray x = States.toFail(States.filled(3), 1, 0);
        CHECK.powerFails("widen, no marks done", x::widen);
        CHECK.due("power has failed", 1, () -> x.count(7));
        CHECK.due("start", 0, x::start);
        CHECK.same("it is as before", "", Sight.difference(Sight.of(() -> States.filled(3)),
                Sight.of(() -> started(States.cutOffWiden(States.filled(3), 1, 0)))));
        WideningArray y = States.toFail(States.filled(3), 1, 0x1111);
        CHECK.powerFails("widen, all marks done", y::widen);
        CHECK.due("start", 1, y::start);
        CHECK.same("it is widened", "", Sight.difference(Sight.of(() -> States.widened(3, 0)),
                Sight.of(() -> started(States.cutOffWiden(States.filled(3), 1, 0x1111)))));
    }

    // Promise 6

    private static void stepTellsTheRows() {
        for (int n = 3; n <= 5; n++) {
            WideningArray x = States.widened(n, 0);
            for (int row = 1; row <= 31; row++) {
                CHECK.due("step " + row + " of " + n, row, x::step);
            }
            CHECK.due("the last step of " + n, 0, x::step);
            CHECK.due("a step from the stash", 1, States.stashed(n, 0)::step);
            CHECK.due("the last step from the stash", 0, States.stashed(n, 31)::step);
            CHECK.due("the last step with a lost disk", 0, States.lost(States.widened(n, 31), n)::step);
        }
    }

    private static void stepOfNoWidenedArray() {
        Sight.State[] states = {
            () -> States.filled(3),
            () -> States.filled(6),
            () -> States.widened(3, 32),
            () -> States.lost(States.filled(3), 1),
            () -> States.replaced(States.filled(3), 1),
            () -> States.toFail(States.filled(3), 1, 0),
            () -> started(States.cutOffWiden(States.filled(3), 1, 0)),
        };
        for (Sight.State state : states) {
            CHECK.leaves("step", Check.ILLEGAL_ARGUMENT, state, WideningArray::step);
        }
    }

    private static void stepWithoutPower() {
        int[] all = {0, 7, 21, 31};
        for (int done : all) {
            for (int w = 1; w <= 5; w++) {
                WideningArray x = States.toFail(States.widened(3, done), w, 0);
                CHECK.powerFails("step " + done + ", point " + w, x::step);
                CHECK.due("power has failed", 1, () -> x.count(7));
                CHECK.due("start", w <= 2 ? 1 : 2, x::start);
                CHECK.due("no row more", done, () -> x.count(2));
                for (int b = 0; b < 64; b++) {
                    CHECK.words("step " + done + ", point " + w, x, b, b + 1);
                }
                CHECK.due("the step again", (done + 1) % 32, x::step);
                for (int b = 0; b < 64; b++) {
                    CHECK.words("step " + done + ", point " + w + ", again", x, b, b + 1);
                }
            }
        }
        CHECK.same("all is done but for the answer", "", Sight.difference(
                Sight.of(() -> States.widened(3, 8)),
                Sight.of(() -> started(States.cutOffStep(States.widened(3, 7), 4, 0x1111)))));
    }

    // Promise 7

    private static void anyDiskCanBeLost() {
        for (int n = 3; n <= 6; n++) {
            for (int d = 0; d < n; d++) {
                dueLost(States.filled(n), d);
            }
        }
        for (int n = 3; n <= 5; n++) {
            dueLost(States.widened(n, 4), 0);
            dueLost(States.widened(n, 4), n);
            dueLost(States.stashed(n, 4), 0);
            dueLost(States.stashed(n, 4), n);
            dueLost(States.widened(n, 32), n);
        }
    }

    private static void dueLost(WideningArray x, int d) {
        CHECK.done("lose(" + d + ")", () -> x.lose(d));
        CHECK.due("lost", d, () -> x.count(5));
        CHECK.words("nothing is gone", x, 0, 1, 2, 3, 4, 5, 6, 7, 8, 9, 10, 11, 12, 13, 14, 15, 16);
    }

    private static void loseNoDisk() {
        int[] wrong = {-1, 3, 4, 6, LEAST, MOST};
        for (int d : wrong) {
            CHECK.leaves("lose(" + d + ") of 3", Check.OUT_OF_BOUNDS,
                    () -> States.filled(3), x -> lose(x, d));
        }
        int[] wrongOfFour = {-1, 4, 5, LEAST, MOST};
        for (int d : wrongOfFour) {
            CHECK.leaves("lose(" + d + ") of 3 and one", Check.OUT_OF_BOUNDS,
                    () -> States.widened(3, 4), x -> lose(x, d));
            CHECK.leaves("lose(" + d + ") at the end", Check.OUT_OF_BOUNDS,
                    () -> States.widened(3, 32), x -> lose(x, d));
        }
        CHECK.leaves("lose(6) of 6", Check.OUT_OF_BOUNDS, () -> States.filled(6), x -> lose(x, 6));
        CHECK.leaves("the added disk is gone", Check.OUT_OF_BOUNDS,
                () -> started(States.cutOffWiden(States.filled(3), 1, 0)), x -> lose(x, 3));
    }

    private static void loseASecond() {
        for (int d = 0; d < 4; d++) {
            int second = d;
            CHECK.leaves("lose(" + d + "), 0 lost", Check.ILLEGAL_ARGUMENT,
                    () -> States.lost(States.widened(3, 4), 0), x -> lose(x, second));
            CHECK.leaves("lose(" + d + "), 3 lost", Check.ILLEGAL_ARGUMENT,
                    () -> States.lost(States.stashed(3, 4), 3), x -> lose(x, second));
        }
    }

    private static void loseBesideAReplacedOne() {
        for (int d = 0; d < 4; d++) {
            int second = d;
            CHECK.leaves("lose(" + d + "), 0 replaced", Check.ILLEGAL_ARGUMENT,
                    () -> States.replaced(States.widened(3, 4), 0), x -> lose(x, second));
            CHECK.leaves("lose(" + d + "), 3 replaced", Check.ILLEGAL_ARGUMENT,
                    () -> States.replaced(States.stashed(3, 4), 3), x -> lose(x, second));
            WideningArray y = States.rebuilt(States.filled(4), 1);
            CHECK.done("lose(" + d + "), 1 rebuilt", () -> y.lose(second));
        }
    }

    private static void loseWhenPowerIsToFail() {
        for (int d = 0; d < 3; d++) {
            int disk = d;
            CHECK.leaves("lose(" + d + ")", Check.ILLEGAL_ARGUMENT,
                    () -> States.toFail(States.filled(3), 1, 0x0101), x -> lose(x, disk));
            CHECK.leaves("lose(" + d + "), at a far point", Check.ILLEGAL_ARGUMENT,
                    () -> States.toFail(States.filled(3), MOST, 0), x -> lose(x, disk));
            WideningArray y = started(States.withoutPower(States.filled(3)));
            CHECK.done("lose(" + d + ") when it has failed", () -> y.lose(disk));
        }
    }

    // Promise 8

    private static void anyDiskCanBeReplaced() {
        for (int n = 3; n <= 5; n++) {
            for (int d = 0; d <= n; d++) {
                WideningArray x = States.lost(States.stashed(n, 4), d);
                CHECK.due("replace", d, x::replace);
                CHECK.counts("replaced", x, n + 1, 32 * (n - 1), 4, 1, 1, -1, d, 0);
                int disk = d;
                for (int r = 0; r < 40; r++) {
                    int row = r;
                    CHECK.due("an empty one", 0, () -> x.cell(disk, row, 0));
                }
                CHECK.due("without marks", 0, () -> x.marks(disk, 0) + x.marks(disk, 1));
            }
        }
    }

    private static void replaceNone() {
        Sight.State[] states = {
            () -> States.filled(3),
            () -> States.stashed(3, 4),
            () -> States.replaced(States.filled(3), 0),
            () -> States.replaced(States.stashed(3, 4), 3),
            () -> States.rebuilt(States.filled(3), 0),
            () -> States.toFail(States.filled(3), 1, 0),
        };
        for (Sight.State state : states) {
            CHECK.leaves("replace", Check.ILLEGAL_ARGUMENT, state, WideningArray::replace);
        }
    }

    // Promise 9

    private static void anyDiskCanBeRebuilt() {
        for (int n = 3; n <= 6; n++) {
            for (int d = 0; d < n; d++) {
                WideningArray x = States.replaced(States.filled(n), d);
                CHECK.due("rebuild", d, x::rebuild);
                CHECK.counts("rebuilt", x, n, 32 * (n - 1), 0, 0, 0, -1, -1, 0);
                int disk = d;
                int of = n;
                CHECK.same("it is as before disk " + d + " of " + n + " was lost", "", Sight.difference(
                        Sight.of(() -> States.filled(of)),
                        Sight.of(() -> States.rebuilt(States.filled(of), disk))));
            }
        }
    }

    private static void rebuildNone() {
        Sight.State[] states = {
            () -> States.filled(3),
            () -> States.stashed(3, 4),
            () -> States.lost(States.filled(3), 0),
            () -> States.lost(States.stashed(3, 4), 3),
            () -> States.rebuilt(States.filled(3), 0),
            () -> States.toFail(States.filled(3), 1, 0),
        };
        for (Sight.State state : states) {
            CHECK.leaves("rebuild", Check.ILLEGAL_ARGUMENT, state, WideningArray::rebuild);
        }
    }

    private static void rebuildLeavesOldRows() {
        for (int n = 3; n <= 5; n++) {
            int added = n;
            WideningArray before = States.widened(n, 6);
            WideningArray x = States.rebuilt(States.widened(n, 6), n);
            for (int r = 0; r < 32; r++) {
                int row = r;
                int want = r < 6 ? before.cell(added, row, 0) : 0;
                CHECK.due("row " + r + " of the added disk", want, () -> x.cell(added, row, 0));
            }
            WideningArray none = States.rebuilt(States.widened(n, 0), n);
            CHECK.due("no row is done", 0, () -> none.cell(added, 0, 0));
            WideningArray last = States.rebuilt(States.widened(n, 31), n);
            CHECK.due("row 31 is not done", 0, () -> last.cell(added, 31, 0));
        }
    }

    private static void rebuildLeavesRowDone() {
        for (int d = 0; d <= 3; d++) {
            // Power fails when the disks 1 and 3 alone have their blocks of row 6.
            WideningArray before = started(States.cutOffStep(States.stashed(3, 6), 1, 0x1010));
            int[] want = {before.cell(0, 6, 0), before.cell(1, 6, 0),
                before.cell(2, 6, 0), before.cell(3, 6, 0)};
            int[] below = {before.cell(0, 5, 0), before.cell(1, 5, 0),
                before.cell(2, 5, 0), before.cell(3, 5, 0)};
            int[] above = {before.cell(0, 7, 0), before.cell(1, 7, 0),
                before.cell(2, 7, 0), before.cell(3, 7, 0)};
            want[d] = 0;
            WideningArray x = States.rebuilt(before, d);
            CHECK.cells("row done, disk " + d, x, 6, want);
            CHECK.cells("the row below, disk " + d, x, 5, below);
            CHECK.cells("the row above, disk " + d, x, 7, above);
        }
        // Row 6 of three disks has blocks 12, 13 on disks 0, 1.
        WideningArray y = States.rebuilt(States.widened(3, 6), 0);
        CHECK.cells("row done, not stashed", y, 6, 13, 14, 13 ^ 14, 0);
    }

    private static void rebuiltMarks() {
        for (int d = 0; d <= 3; d++) {
            int disk = d;
            CHECK.due("number 1", 1, () -> States.rebuilt(States.filled(4), disk).marks(disk, 1));
            CHECK.due("number 2", 2, () -> States.rebuilt(States.widened(3, 0), disk).marks(disk, 0));
            CHECK.due("number 7, stashed", 7,
                    () -> States.rebuilt(States.stashed(3, 2), disk).marks(disk, 1));
            CHECK.due("number 8", 8, () -> States.rebuilt(States.widened(3, 3), disk).marks(disk, 0));
            CHECK.due("number 66", 66, () -> States.rebuilt(States.widened(3, 32), disk).marks(disk, 0));
        }
        // Disk 0 alone had the marks with stashed; rebuilt ones tell the same when power fails.
        WideningArray x = States.rebuilt(States.stashed(3, 2), 0);
        CHECK.due("they tell how things are", 2, States.withoutPower(x)::start);
        CHECK.counts("they tell how things are", x, 4, 64, 2, 1, 1, -1, -1, 0);
        // The step of a lost disk 0 ends with marks that it gets when it is rebuilt.
        WideningArray y = States.lost(States.widened(3, 2), 0);
        y.step();
        y.replace();
        y.rebuild();
        CHECK.marks("of a step that it missed", y, 0, 8, 8, 8, 8);
    }

    private static void rebuildLeavesTheOtherPlace() {
        for (int d = 0; d <= 3; d++) {
            int disk = d;
            CHECK.due("number 1", 0, () -> States.rebuilt(States.filled(4), disk).marks(disk, 0));
            CHECK.due("number 2", 0, () -> States.rebuilt(States.widened(3, 0), disk).marks(disk, 1));
            CHECK.due("number 7, stashed", 0,
                    () -> States.rebuilt(States.stashed(3, 2), disk).marks(disk, 0));
            CHECK.due("number 8", 0, () -> States.rebuilt(States.widened(3, 3), disk).marks(disk, 1));
        }
    }

    private static void rebuiltStash() {
        for (int n = 3; n <= 5; n++) {
            for (int d = 0; d <= n; d++) {
                WideningArray x = States.rebuilt(States.stashed(n, 0), d);
                WideningArray y = States.rebuilt(States.widened(n, 1), d);
                for (int i = 0; i < 8; i++) {
                    int[] want = new int[n + 1];
                    want[0] = i < n ? i + 1 : 0;
                    want[n] = want[0];
                    CHECK.cells("stashed, disk " + d + " of " + n, x, 32 + i, want);
                    want[d] = 0;
                    CHECK.cells("not stashed, disk " + d + " of " + n, y, 32 + i, want);
                }
            }
        }
        WideningArray z = States.rebuilt(States.stashed(3, 6), 3);
        z.lose(0);
        CHECK.words("the rebuilt copy tells the window", z, 17, 18, 19, 20, 21, 22);
    }

    // Promise 10

    private static void crashInPlaceOfAnother() {
        WideningArray x = States.toFail(States.widened(3, 1), 1, 0);
        CHECK.done("another w", () -> x.crash(3, 0));
        CHECK.powerFails("step", x::step);
        CHECK.due("it fails at point 3", 2, x::start);
        WideningArray y = States.toFail(States.filled(3), 1, 0);
        CHECK.done("another c", () -> y.crash(1, 0x0001));
        CHECK.powerFails("write", () -> y.write(0, 0, 900));
        CHECK.due("start", 0, y::start);
        CHECK.due("disk 0 has done its write", 900, () -> y.read(0, 0));
        CHECK.due("it fails once", true, () -> y.write(0, 0, 901));
        WideningArray z = States.toFail(States.widened(3, 1), MOST, -1);
        CHECK.done("a smaller w", () -> z.crash(1, 0));
        CHECK.powerFails("step", z::step);
        CHECK.due("it fails at point 1", 1, z::start);
        CHECK.cells("and no disk has done a write", z, 32, 1, 0, 0, 1);
    }

    private static void crashBelowOne() {
        Sight.State[] states = {
            () -> States.filled(3),
            () -> States.widened(3, 5),
            () -> States.toFail(States.filled(3), 1, 0x0001),
            () -> States.toFail(States.widened(3, 5), 3, 0x0101),
        };
        int[] wrong = {0, -1, -2, LEAST};
        for (Sight.State state : states) {
            for (int w : wrong) {
                CHECK.leaves("crash(" + w + ", -1)", Check.ILLEGAL_ARGUMENT, state, x -> crash(x, w, -1));
                CHECK.leaves("crash(" + w + ", 0)", Check.ILLEGAL_ARGUMENT, state, x -> crash(x, w, 0));
            }
        }
        int[] right = {1, 2, MOST};
        for (int w : right) {
            CHECK.done("crash(" + w + ", 0)", () -> States.filled(3).crash(w, 0));
        }
    }

    private static void crashWithALostDisk() {
        for (int d = 0; d <= 3; d++) {
            int lost = d;
            CHECK.leaves("disk " + d + " is lost", Check.ILLEGAL_ARGUMENT,
                    () -> States.lost(States.widened(3, 5), lost), x -> crash(x, 1, 0));
        }
    }

    private static void crashWithAReplacedDisk() {
        for (int d = 0; d <= 3; d++) {
            int replaced = d;
            CHECK.leaves("disk " + d + " is not rebuilt", Check.ILLEGAL_ARGUMENT,
                    () -> States.replaced(States.widened(3, 5), replaced), x -> crash(x, 1, 0));
            CHECK.done("disk " + d + " is rebuilt",
                    () -> States.rebuilt(States.widened(3, 5), replaced).crash(1, 0));
        }
    }

    // Promise 11

    private static void startTellsHowThingsAre() {
        for (int n = 3; n <= 5; n++) {
            CHECK.due("not widened", 0, States.withoutPower(States.filled(n))::start);
            CHECK.due("not widened any more", 0, States.withoutPower(States.widened(n, 32))::start);
            CHECK.due("widened, no row done", 1, States.withoutPower(States.widened(n, 0))::start);
            CHECK.due("widened, 31 rows done", 1, States.withoutPower(States.widened(n, 31))::start);
            CHECK.due("stashed, no row done", 2, States.withoutPower(States.stashed(n, 0))::start);
            CHECK.due("stashed, 31 rows done", 2, States.withoutPower(States.stashed(n, 31))::start);
        }
        CHECK.due("six disks", 0, States.withoutPower(States.filled(6))::start);
    }

    private static void startWithPower() {
        Sight.State[] states = {
            WideningArray::new,
            () -> States.filled(3),
            () -> States.stashed(3, 5),
            () -> States.lost(States.filled(3), 1),
            () -> States.replaced(States.filled(3), 1),
            () -> States.toFail(States.widened(3, 5), 2, 0x0101),
            () -> started(States.withoutPower(States.filled(3))),
            () -> Check.called(() -> States.withoutPower(States.filled(3)), x -> x.format(3)),
        };
        for (Sight.State state : states) {
            CHECK.leaves("start", Check.ILLEGAL_STATE, state, WideningArray::start);
        }
    }

    // Promise 12

    private static void goodRows() {
        Sight.State[] states = {
            () -> States.filled(3),
            () -> States.filled(6),
            () -> States.widened(3, 0),
            () -> States.widened(4, 9),
            () -> States.widened(5, 31),
            () -> States.widened(5, 32),
            () -> States.rebuilt(States.widened(3, 9), 0),
            () -> States.toFail(States.widened(3, 9), 1, 0),
            () -> started(States.cutOffWrite(States.widened(3, 9), 0, 5, 0x0001)),
            () -> started(States.cutOffWrite(States.widened(3, 9), 63, 5, 0x0001)),
        };
        for (Sight.State state : states) {
            WideningArray x = state.make();
            for (int r = 0; r < 32; r++) {
                int row = r;
                CHECK.due("good(" + r + ")", true, () -> x.good(row));
            }
        }
    }

    private static void goodOfNoRow() {
        Sight.State[] states = {
            () -> States.filled(3),
            () -> States.stashed(3, 31),
            () -> States.lost(States.filled(3), 1),
            () -> States.toFail(States.filled(3), 1, 0),
        };
        int[] wrong = {-1, 32, 33, 39, 40, LEAST, MOST};
        for (Sight.State state : states) {
            for (int row : wrong) {
                CHECK.leaves("good(" + row + ")", Check.OUT_OF_BOUNDS, state, x -> x.good(row));
            }
        }
        CHECK.due("the first row", true, () -> States.filled(3).good(0));
        CHECK.due("the last row", true, () -> States.filled(3).good(31));
    }

    private static void goodWithALostDisk() {
        for (int d = 0; d <= 3; d++) {
            int lost = d;
            // Disk 3 has no part in row 31, yet a disk is lost.
            CHECK.leaves("good(0), disk " + d + " lost", Check.ILLEGAL_ARGUMENT,
                    () -> States.lost(States.widened(3, 5), lost), x -> x.good(0));
            CHECK.leaves("good(31), disk " + d + " lost", Check.ILLEGAL_ARGUMENT,
                    () -> States.lost(States.widened(3, 5), lost), x -> x.good(31));
        }
    }

    private static void goodWithAReplacedDisk() {
        for (int d = 0; d <= 3; d++) {
            int replaced = d;
            CHECK.leaves("good(0), disk " + d + " replaced", Check.ILLEGAL_ARGUMENT,
                    () -> States.replaced(States.widened(3, 5), replaced), x -> x.good(0));
            CHECK.leaves("good(31), disk " + d + " replaced", Check.ILLEGAL_ARGUMENT,
                    () -> States.replaced(States.widened(3, 5), replaced), x -> x.good(31));
            CHECK.due("good(0), disk " + d + " rebuilt", true,
                    () -> States.rebuilt(States.widened(3, 5), replaced).good(0));
        }
    }

    private static void goodOfRowDone() {
        int[] all = {0, 1, 21, 22, 31};
        for (int done : all) {
            CHECK.leaves("row done, stashed", Check.ILLEGAL_ARGUMENT,
                    () -> States.stashed(3, done), x -> x.good(done));
            CHECK.due("row done, not stashed", true, () -> States.widened(3, done).good(done));
        }
        int[] inside = {1, 21, 22, 30};
        for (int done : inside) {
            CHECK.due("the row below, stashed", true, () -> States.stashed(3, done).good(done - 1));
            CHECK.due("the row above, stashed", true, () -> States.stashed(3, done).good(done + 1));
        }
        CHECK.due("row 0, not widened", true, () -> States.filled(3).good(0));
    }

    // Promise 13

    private static void layoutOfEachBlock() {
        for (int n = 3; n <= 5; n++) {
            int[] all = {0, 1, 16, 31};
            for (int done : all) {
                WideningArray x = States.stashed(n, done);
                WideningArray y = States.widened(n, done);
                for (int b = 0; b < 32 * (n - 1); b++) {
                    int row = b / n;
                    CHECK.layouts(n + ", stashed at " + done, x, b, row < done ? 1 : row == done ? 2 : 0);
                    CHECK.layouts(n + ", " + done + " rows done", y, b, row < done ? 1 : 0);
                }
            }
        }
        for (int n = 3; n <= 6; n++) {
            CHECK.layouts("not widened", States.filled(n), 32 * (n - 1) - 2, 0, 0);
        }
        CHECK.layouts("at the end", States.widened(3, 32), 62, 0, 0, 0, 0);
        CHECK.layouts("a lost disk", States.lost(States.stashed(3, 5), 0), 14, 1, 2, 2, 2, 0);
    }

    private static void layoutOfNoBlock() {
        for (Sight.State state : statesOfSixtyFour()) {
            int[] wrong = {64, -1, 65, 95, 96, 160, 1 << 30, LEAST, MOST};
            for (int b : wrong) {
                CHECK.leaves("layout(" + b + ")", Check.OUT_OF_BOUNDS, state, x -> x.layout(b));
            }
        }
        CHECK.due("the first block", 0, () -> States.filled(3).layout(0));
        CHECK.due("the last block", 0, () -> States.filled(3).layout(63));
        CHECK.due("the last block at the end", 0, () -> States.widened(3, 32).layout(95));
        CHECK.outOfBounds("beyond the end", () -> States.widened(3, 32).layout(96));
    }

    // Promise 14

    private static void cellsThatMeanNothing() {
        WideningArray x = States.widened(3, 32);
        CHECK.cells("the stash of the last window that had blocks is gone", x, 32, 0, 0, 0, 0);
        WideningArray y = States.widened(3, 4);
        CHECK.cells("a stash that is not needed any more", y, 32, 10, 0, 0, 10);
        // Row 4 of three disks has blocks 8, 9 on disks 2, 0, which have been laid anew elsewhere.
        CHECK.cells("a row that is not needed any more", y, 4, 10, 9 ^ 10, 9, 0);
        y.write(9, 0, 500);
        CHECK.cells("and not written any more", y, 4, 10, 9 ^ 10, 9, 0);
        WideningArray z = started(States.cutOffStep(States.stashed(3, 4), 1, 0x1000));
        // Row 4 of four disks has the parity of blocks 12, 13, 14 on disk 3.
        CHECK.cells("a row that is half laid", z, 4, 10, 9 ^ 10, 9, 13 ^ 14 ^ 15);
        CHECK.cells("no row of the stash", States.filled(3), 39, 0, 0, 0);
    }

    private static void cellsOfALostDisk() {
        for (int d = 0; d <= 3; d++) {
            int disk = d;
            WideningArray x = States.lost(States.stashed(3, 5), d);
            for (int r = 0; r < 40; r++) {
                int row = r;
                CHECK.due("disk " + d + ", row " + r, 0, () -> x.cell(disk, row, 0));
            }
        }
        WideningArray y = States.lost(States.widened(3, 5), 1);
        CHECK.cells("the others have what they had", y, 1, 5, 0, 4 ^ 5 ^ 6, 4);
    }

    private static void cellOfNoDisk() {
        int[] wrong = {-1, 3, 4, 6, LEAST, MOST};
        for (int d : wrong) {
            CHECK.leaves("cell(" + d + ", 0, 0)", Check.OUT_OF_BOUNDS,
                    () -> States.filled(3), x -> x.cell(d, 0, 0));
        }
        int[] wrongOfFour = {-1, 4, 5, LEAST, MOST};
        for (int d : wrongOfFour) {
            CHECK.leaves("cell(" + d + ", 0, 0), widened", Check.OUT_OF_BOUNDS,
                    () -> States.widened(3, 5), x -> x.cell(d, 0, 0));
        }
        CHECK.due("the last disk", 1 ^ 2, () -> States.filled(3).cell(2, 0, 0));
        // Row 1 of four disks has block 3 on disk 3.
        CHECK.due("the added disk", 4, () -> States.widened(3, 5).cell(3, 1, 0));
        CHECK.outOfBounds("cell(6, 0, 0) of six", () -> States.filled(6).cell(6, 0, 0));
        CHECK.outOfBounds("an added disk that is gone",
                () -> started(States.cutOffWiden(States.filled(3), 1, 0)).cell(3, 0, 0));
    }

    private static void cellOfNoRow() {
        int[] wrong = {-1, 40, 41, LEAST, MOST, 1 << 30};
        for (int row : wrong) {
            CHECK.leaves("cell(0, " + row + ", 0)", Check.OUT_OF_BOUNDS,
                    () -> States.stashed(3, 5), x -> x.cell(0, row, 0));
            CHECK.leaves("cell(1, " + row + ", 0), 1 lost", Check.OUT_OF_BOUNDS,
                    () -> States.lost(States.filled(3), 1), x -> x.cell(1, row, 0));
        }
        CHECK.due("the first row", 1, () -> States.filled(3).cell(0, 0, 0));
        CHECK.due("the last row of data", 64, () -> States.filled(3).cell(0, 31, 0));
        CHECK.due("the first row of the stash", 1, () -> States.stashed(3, 0).cell(0, 32, 0));
        CHECK.due("the last row of the stash", 0, () -> States.stashed(3, 0).cell(0, 39, 0));
    }

    private static void cellOfNoWord() {
        int[] wrong = {-1, 4, 5, LEAST, MOST, 1 << 30};
        for (int i : wrong) {
            CHECK.leaves("cell(0, 0, " + i + ")", Check.OUT_OF_BOUNDS,
                    () -> States.filled(3), x -> x.cell(0, 0, i));
            CHECK.leaves("cell(0, 39, " + i + ")", Check.OUT_OF_BOUNDS,
                    () -> States.filled(3), x -> x.cell(0, 39, i));
            CHECK.leaves("cell(1, 5, " + i + "), 1 lost", Check.OUT_OF_BOUNDS,
                    () -> States.lost(States.filled(3), 1), x -> x.cell(1, 5, i));
        }
        WideningArray y = States.made(3);
        y.write(0, 3, 8);
        CHECK.due("the first word", 0, () -> y.cell(0, 0, 0));
        CHECK.due("the last word", 8, () -> y.cell(0, 0, 3));
    }

    // Promise 15

    private static void marksOfBothPlaces() {
        WideningArray x = States.widened(3, 3);
        CHECK.marks("odd", x, 1, 7, 7, 7, 7);
        CHECK.marks("even", x, 0, 8, 8, 8, 8);
        CHECK.marks("none yet", States.made(3), 0, 0, 0, 0);
        WideningArray y = States.lost(States.widened(3, 3), 1);
        CHECK.marks("a lost disk tells nothing: odd", y, 1, 7, 0, 7, 7);
        CHECK.marks("a lost disk tells nothing: even", y, 0, 8, 0, 8, 8);
    }

    private static void marksOfNoDisk() {
        int[] wrong = {-1, 3, 4, 6, LEAST, MOST};
        for (int d : wrong) {
            CHECK.leaves("marks(" + d + ", 1)", Check.OUT_OF_BOUNDS,
                    () -> States.filled(3), x -> x.marks(d, 1));
        }
        int[] wrongOfFour = {-1, 4, 5, LEAST, MOST};
        for (int d : wrongOfFour) {
            CHECK.leaves("marks(" + d + ", 0), widened", Check.OUT_OF_BOUNDS,
                    () -> States.widened(3, 5), x -> x.marks(d, 0));
        }
        CHECK.due("the last disk", 1, () -> States.filled(3).marks(2, 1));
        CHECK.due("the added disk", 2, () -> States.widened(3, 0).marks(3, 0));
        CHECK.outOfBounds("marks(6, 0) of six", () -> States.filled(6).marks(6, 0));
    }

    private static void marksOfNoPlace() {
        int[] wrong = {-1, 2, 3, LEAST, MOST};
        for (int place : wrong) {
            CHECK.leaves("marks(0, " + place + ")", Check.OUT_OF_BOUNDS,
                    () -> States.widened(3, 5), x -> x.marks(0, place));
            CHECK.leaves("marks(1, " + place + "), 1 lost", Check.OUT_OF_BOUNDS,
                    () -> States.lost(States.filled(3), 1), x -> x.marks(1, place));
        }
    }

    // Promise 16

    private static void countOfDisks() {
        for (int k = 3; k <= 6; k++) {
            int n = k;
            CHECK.due("format(" + n + ")", n, () -> States.made(n).count(0));
        }
        CHECK.due("widened", 4, () -> States.widened(3, 0).count(0));
        CHECK.due("widened, stashed", 6, () -> States.stashed(5, 31).count(0));
        CHECK.due("at the end", 4, () -> States.widened(3, 32).count(0));
        CHECK.due("one lost", 3, () -> States.lost(States.filled(3), 2).count(0));
    }

    private static void countOfBlocks() {
        CHECK.due("three disks", 64, () -> States.made(3).count(1));
        CHECK.due("six disks", 160, () -> States.made(6).count(1));
        CHECK.due("widened", 64, () -> States.widened(3, 31).count(1));
        CHECK.due("at the end", 96, () -> States.widened(3, 32).count(1));
    }

    private static void countOfRowsDone() {
        CHECK.due("not widened", 0, () -> States.made(3).count(2));
        CHECK.due("widened", 0, () -> States.widened(3, 0).count(2));
        CHECK.due("a row", 1, () -> States.widened(3, 1).count(2));
        CHECK.due("a row, and the next one stashed", 1, () -> States.stashed(3, 1).count(2));
        CHECK.due("31 rows", 31, () -> States.widened(3, 31).count(2));
        CHECK.due("at the end", 0, () -> States.widened(3, 32).count(2));
    }

    private static void countOfWidenedAndStashed() {
        CHECK.counts("not widened", States.made(3), 3, 64, 0, 0, 0);
        CHECK.counts("widened", States.widened(3, 0), 4, 64, 0, 1, 0);
        CHECK.counts("stashed", States.stashed(3, 0), 4, 64, 0, 1, 1);
        CHECK.counts("31 rows, stashed", States.stashed(3, 31), 4, 64, 31, 1, 1);
        CHECK.counts("at the end", States.widened(3, 32), 4, 96, 0, 0, 0);
    }

    private static void countOfLostAndReplaced() {
        for (int d = 0; d <= 3; d++) {
            WideningArray x = States.widened(3, 5);
            CHECK.counts("none", x, 4, 64, 5, 1, 0, -1, -1);
            x.lose(d);
            CHECK.counts("lost", x, 4, 64, 5, 1, 0, d, -1);
            x.replace();
            CHECK.counts("replaced", x, 4, 64, 5, 1, 0, -1, d);
            x.rebuild();
            CHECK.counts("rebuilt", x, 4, 64, 5, 1, 0, -1, -1);
        }
    }

    private static void countOfPower() {
        CHECK.due("no array", 0, () -> new WideningArray().count(7));
        CHECK.due("an array", 0, () -> States.made(3).count(7));
        CHECK.due("it is to fail", 0, () -> States.toFail(States.made(3), 1, 0).count(7));
        CHECK.due("it has failed in a write", 1, () -> States.withoutPower().count(7));
        CHECK.due("it has failed in widen", 1, () -> States.cutOffWiden(States.made(3), 1, -1).count(7));
        CHECK.due("it has failed in a step", 1,
                () -> States.cutOffStep(States.widened(3, 0), 4, -1).count(7));
        CHECK.due("it is back", 0, () -> started(States.withoutPower()).count(7));
    }

    private static void countOfAnotherWhat() {
        Sight.State[] states = {
            WideningArray::new,
            () -> States.stashed(3, 5),
            () -> States.lost(States.filled(3), 1),
            () -> States.withoutPower(States.filled(3)),
        };
        int[] others = {-1, 8, 9, 16, LEAST, MOST};
        for (Sight.State state : states) {
            for (int what : others) {
                CHECK.leaves("count(" + what + ")", -1, state, x -> x.count(what));
            }
        }
    }

    private static void countOfNoArray() {
        CHECK.counts("a new object", new WideningArray(), -1, -1, -1, -1, -1, -1, -1, 0);
        WideningArray refused = Check.called(WideningArray::new, x -> x.format(7));
        CHECK.counts("a refused format", refused, -1, -1, -1, -1, -1, -1, -1, 0);
    }

    private static void countWithoutPower() {
        WideningArray[] all = {States.withoutPower(States.filled(3)),
            States.cutOffStep(States.widened(3, 5), 3, 0x0101), States.cutOffWiden(States.filled(5), 1, -1)};
        for (WideningArray x : all) {
            CHECK.counts("power has failed", x, -1, -1, -1, -1, -1, -1, -1, 1);
        }
        WideningArray y = started(States.withoutPower(States.widened(3, 5)));
        CHECK.counts("it is back", y, 4, 64, 5, 1, 0, -1, -1, 0);
    }
}
