/** Each promise in turn: ordinary inputs, the edges that the document names, wrong inputs. */
public final class PromisesTest {
    private static final Check CHECK = new Check("PromisesTest");

    public static void main(String[] args) {
        newObject();
        format();
        formatStartsOver();
        write();
        writeWithALostDisk();
        read();
        readInEveryLayout();
        widen();
        widenCutOff();
        step();
        stepToTheEnd();
        stepCutOffAtEachPoint();
        lose();
        replace();
        rebuild();
        rebuildWhileStashed();
        crash();
        crashShares();
        start();
        startMendsParity();
        good();
        layout();
        cell();
        marks();
        count();
        noArrayAndNoPower();
        CHECK.end();
    }

    private static void fails(WideningArray x) {
        CHECK.powerFails("step() with power that fails", x::step);
    }

    // Promise 1

    private static void newObject() {
        CHECK.due("NONE", -1, () -> WideningArray.NONE);
        WideningArray x = new WideningArray();
        CHECK.counts("new", x, -1, -1, -1, -1, -1, -1, -1, 0, -1);
        CHECK.illegalState("new: read", () -> x.read(0, 0));
        CHECK.illegalState("new: start", x::start);
    }

    // Promise 2

    private static void format() {
        int[] bad = {2, 7, 0, -1, 1 << 30, Integer.MIN_VALUE, Integer.MAX_VALUE};
        for (int n : bad) {
            WideningArray x = new WideningArray();
            CHECK.illegalArgument("format(" + n + ")", () -> x.format(n));
            CHECK.due("after a refused format", -1, () -> x.count(0));
        }
        for (int k = 3; k <= 6; k++) {
            int n = k;
            WideningArray x = new WideningArray();
            CHECK.due("format(" + n + ")", 32 * (n - 1), () -> x.format(n));
            CHECK.counts("format(" + n + ")", x, n, 32 * (n - 1), 0, 0, 0, -1, -1, 0);
            for (int d = 0; d < n; d++) {
                int disk = d;
                CHECK.due("the first marks", 1, () -> x.marks(disk, 1));
                CHECK.due("no even marks", 0, () -> x.marks(disk, 0));
                CHECK.due("an empty disk", 0, () -> x.cell(disk, 31, 3));
            }
        }
    }

    private static void formatStartsOver() {
        WideningArray x = States.widened(3, 2);
        CHECK.illegalArgument("format(2) of an array", () -> x.format(2));
        CHECK.counts("a refused format leaves the array", x, 4, 64, 2, 1, 0, -1, -1, 0);
        x.lose(1);
        CHECK.due("format of a used array", 96, () -> x.format(4));
        CHECK.counts("format of a used array", x, 4, 96, 0, 0, 0, -1, -1, 0);
        CHECK.marks("format of a used array", x, 1, 1, 1, 1, 1);
        CHECK.marks("format of a used array", x, 0, 0, 0, 0, 0);
        CHECK.cells("format of a used array", x, 0, 0, 0, 0, 0);
        CHECK.cells("format of a used array", x, 32, 0, 0, 0, 0);

        x.crash(1, 0);
        x.format(3);
        CHECK.due("format forgets that power is to fail", true, () -> x.write(0, 0, 1));

        WideningArray y = States.withoutPower();
        CHECK.due("format without power", 64, () -> y.format(3));
        CHECK.counts("format without power", y, 3, 64, 0, 0, 0, -1, -1, 0);
        CHECK.due("format without power: write", true, () -> y.write(0, 0, 1));
        CHECK.illegalState("format without power: start", y::start);
    }

    // Promise 3

    private static void write() {
        WideningArray x = States.made(4);
        CHECK.due("write", true, () -> x.write(4, 2, 6));
        CHECK.due("write", true, () -> x.write(5, 2, 3));
        CHECK.due("write", true, () -> x.write(3, 2, Integer.MIN_VALUE));
        // Row 1 of four disks: parity on disk 2, blocks 3, 4, 5 on disks 3, 0, 1.
        int[] want = {6, 3, Integer.MIN_VALUE ^ 5, Integer.MIN_VALUE};
        for (int k = 0; k < 4; k++) {
            int d = k;
            CHECK.due("written on disk " + d, want[d], () -> x.cell(d, 1, 2));
            CHECK.due("not written on disk " + d, 0, () -> x.cell(d, 1, 1));
        }
        CHECK.due("write again", true, () -> x.write(4, 2, 7));
        CHECK.due("its parity", Integer.MIN_VALUE ^ 4, () -> x.cell(2, 1, 2));
        CHECK.due("the last block", true, () -> x.write(95, 3, -1));
        CHECK.due("the last block", -1, () -> x.read(95, 3));
        int[][] bad = {{96, 0}, {-1, 0}, {0, 4}, {0, -1}, {Integer.MAX_VALUE, 0},
            {Integer.MIN_VALUE, 0}, {0, Integer.MAX_VALUE}, {0, Integer.MIN_VALUE}};
        for (int[] at : bad) {
            CHECK.outOfBounds("write(" + at[0] + ", " + at[1] + ")", () -> x.write(at[0], at[1], 1));
        }

        WideningArray y = States.stashed(4, 1);
        y.crash(1, 0);
        CHECK.due("write in the window", false, () -> y.write(4, 0, 77));
        CHECK.due("write in the window", false, () -> y.write(7, 3, 77));
        CHECK.words("nothing is changed", y, 4, 5, 6, 7, 8);
        CHECK.outOfBounds("no such word in the window", () -> y.write(4, 4, 77));
        CHECK.powerFails("write behind the window", () -> y.write(8, 0, 77));
        CHECK.due("start", 2, y::start);
        CHECK.due("write behind the window", true, () -> y.write(8, 0, 77));
        CHECK.due("write before the window", true, () -> y.write(3, 0, 78));
        CHECK.words("written round the window", y, 3, 78, 5, 6, 7, 8, 77);
        CHECK.due("row 0 stays good", true, () -> y.good(0));
        CHECK.due("row 2 stays good", true, () -> y.good(2));
    }

    private static void writeWithALostDisk() {
        for (int k = 0; k < 4; k++) {
            int d = k;
            WideningArray x = States.made(4);
            x.write(3, 0, 1);
            x.write(4, 0, 2);
            x.write(5, 0, 4);
            x.lose(d);
            CHECK.due("write without disk " + d, true, () -> x.write(4, 0, 9));
            CHECK.words("write without disk " + d, x, 3, 1, 9, 4);
            CHECK.due("a lost disk does no writes", 0, () -> x.cell(d, 1, 0));
            x.replace();
            CHECK.due("write with a replaced disk", true, () -> x.write(5, 0, 5));
            CHECK.due("a replaced disk does no writes", 0, () -> x.cell(d, 1, 0));
            CHECK.words("write with a replaced disk " + d, x, 3, 1, 9, 5);
            x.rebuild();
            CHECK.cells("rebuilt disk " + d, x, 1, 9, 5, 1 ^ 9 ^ 5, 1);
        }
    }

    // Promise 4

    private static void read() {
        WideningArray x = States.made(3);
        CHECK.due("an empty block", 0, () -> x.read(63, 3));
        x.write(63, 3, 8);
        CHECK.due("read", 8, () -> x.read(63, 3));
        int[][] bad = {{64, 0}, {-1, 0}, {0, 4}, {0, -1}, {Integer.MAX_VALUE, 0},
            {Integer.MIN_VALUE, 0}, {0, Integer.MAX_VALUE}, {0, Integer.MIN_VALUE}};
        for (int[] at : bad) {
            CHECK.outOfBounds("read(" + at[0] + ", " + at[1] + ")", () -> x.read(at[0], at[1]));
        }
        WideningArray y = States.widened(3, 31);
        CHECK.outOfBounds("capacity stays while widened", () -> y.read(64, 0));
    }

    private static void readInEveryLayout() {
        for (int n = 3; n <= 5; n++) {
            for (int d = 0; d <= n; d++) {
                WideningArray x = States.stashed(n, 5);
                x.lose(d);
                for (int b = 0; b < 32 * (n - 1); b++) {
                    CHECK.words("n " + n + ", stashed, disk " + d + " lost", x, b, b + 1);
                }
            }
        }
    }

    // Promise 5

    private static void widen() {
        for (int k = 3; k <= 5; k++) {
            int n = k;
            WideningArray x = States.made(n);
            CHECK.due("widen of " + n, n + 1, x::widen);
            CHECK.counts("widen of " + n, x, n + 1, 32 * (n - 1), 0, 1, 0, -1, -1, 0);
            CHECK.due("its marks on disk 0", 2, () -> x.marks(0, 0));
            CHECK.due("its marks on the added disk", 2, () -> x.marks(n, 0));
            CHECK.due("the added disk is empty", 0, () -> x.marks(n, 1));
            CHECK.illegalArgument("widen twice", x::widen);
            CHECK.due("marks of a refused widen", 0, () -> x.marks(n, 1));
        }
        CHECK.illegalArgument("widen of six", States.made(6)::widen);
        WideningArray x = States.made(4);
        x.lose(3);
        CHECK.illegalArgument("widen with a lost disk", x::widen);
        x.replace();
        CHECK.illegalArgument("widen with a disk not rebuilt", x::widen);
        x.rebuild();
        CHECK.due("widen with a rebuilt disk", 5, x::widen);
        WideningArray y = States.widened(5, 32);
        CHECK.illegalArgument("widen of six that were five", y::widen);
    }

    private static void widenCutOff() {
        WideningArray x = States.filled(3);
        x.crash(1, 0xf0000);
        CHECK.powerFails("widen, marks nowhere", x::widen);
        CHECK.due("start", 0, x::start);
        CHECK.counts("widen did not happen", x, 3, 64, 0, 0, 0, -1, -1, 0);
        CHECK.outOfBounds("no added disk", () -> x.marks(3, 0));
        x.crash(1, 0x1000);
        CHECK.powerFails("widen, marks on the added disk alone", x::widen);
        CHECK.due("start", 1, x::start);
        CHECK.counts("widen happened", x, 4, 64, 0, 1, 0, -1, -1, 0);
        CHECK.marks("marks on the added disk alone", x, 0, 0, 0, 0, 2);
        CHECK.due("step", 1, x::step);
        CHECK.marks("after a step", x, 0, 4, 4, 4, 4);
        CHECK.marks("after a step", x, 1, 3, 3, 3, 3);
    }

    // Promise 6

    private static void step() {
        CHECK.illegalArgument("step of an array that is not widened", States.made(3)::step);
        WideningArray x = States.widened(3, 0);
        CHECK.due("step", 1, x::step);
        // Row 0 of four disks: blocks 0, 1, 2 on disks 0, 1, 2.
        CHECK.cells("laid anew", x, 0, 1, 2, 3, 1 ^ 2 ^ 3);
        CHECK.cells("stashed", x, 32, 1, 0, 0, 1);
        CHECK.cells("stashed", x, 33, 2, 0, 0, 2);
        CHECK.cells("stashed", x, 34, 3, 0, 0, 3);
        CHECK.cells("stashed", x, 35, 0, 0, 0, 0);
        CHECK.marks("marks with stashed", x, 1, 3, 3, 3, 3);
        CHECK.marks("marks with a row done", x, 0, 4, 4, 4, 4);
        CHECK.due("step", 2, x::step);
        // Row 1 of four disks: parity on disk 2, blocks 3, 4, 5 on disks 3, 0, 1.
        CHECK.cells("laid anew", x, 1, 5, 6, 4 ^ 5 ^ 6, 4);
        // Row 2 of three disks is old: parity on disk 0, blocks 4, 5 on disks 1, 2.
        CHECK.cells("not yet laid anew", x, 2, 5 ^ 6, 5, 6, 0);
        CHECK.counts("two steps", x, 4, 64, 2, 1, 0, -1, -1, 0);

        WideningArray y = States.stashed(3, 1);
        CHECK.due("step of a stashed one", 2, y::step);
        CHECK.marks("no new stash", y, 0, 6, 6, 6, 6);
        CHECK.cells("laid anew", y, 1, 5, 6, 4 ^ 5 ^ 6, 4);

        for (int d = 0; d < 4; d++) {
            WideningArray z = States.stashed(3, 1);
            z.lose(d);
            CHECK.due("stashed step without disk " + d, 2, z::step);
            CHECK.due("step without disk " + d, 3, z::step);
            for (int b = 0; b < 64; b++) {
                CHECK.words("steps without disk " + d, z, b, b + 1);
            }
        }
    }

    private static void stepToTheEnd() {
        for (int k = 3; k <= 5; k++) {
            int n = k;
            WideningArray x = States.widened(n, 31);
            CHECK.counts("the last row but one", x, n + 1, 32 * (n - 1), 31, 1, 0, -1, -1, 0);
            CHECK.due("the last step", 0, x::step);
            CHECK.counts("at the end", x, n + 1, 32 * n, 0, 0, 0, -1, -1, 0);
            CHECK.due("marks at the end", 2 + 64, () -> x.marks(n, 0));
            CHECK.illegalArgument("step at the end", x::step);
            for (int b = 0; b < 32 * n; b++) {
                CHECK.words("at the end", x, b, b < 32 * (n - 1) ? b + 1 : 0);
            }
            CHECK.outOfBounds("behind the end", () -> x.read(32 * n, 0));
            for (int r = 0; r < 32; r++) {
                int row = r;
                CHECK.due("good(" + row + ") at the end", true, () -> x.good(row));
            }
        }
        WideningArray x = States.stashed(3, 31);
        x.crash(2, 0);
        fails(x);
        CHECK.due("no last marks: start", 2, x::start);
        x.crash(2, 0x10);
        fails(x);
        CHECK.due("a single copy of the last marks: start", 0, x::start);
        CHECK.counts("a single copy of the last marks", x, 4, 96, 0, 0, 0, -1, -1, 0);
    }

    private static void stepCutOffAtEachPoint() {
        int[] want = {1, 1, 2, 2};
        for (int w = 1; w <= 4; w++) {
            WideningArray x = States.widened(4, 3);
            x.crash(w, 0);
            fails(x);
            CHECK.due("nothing done at point " + w + ": start", want[w - 1], x::start);
            for (int b = 0; b < 96; b++) {
                CHECK.words("nothing done at point " + w, x, b, b + 1);
            }
            CHECK.due("the step again", 4, x::step);
            for (int b = 0; b < 96; b++) {
                CHECK.words("cut off at point " + w + ", then stepped", x, b, b + 1);
            }
        }
        WideningArray x = States.widened(4, 3);
        // Disk 4 does two of the four that wait there, disk 0 three, the others have none.
        x.crash(1, 0x2fff3);
        fails(x);
        CHECK.due("a part of the stash: start", 1, x::start);
        CHECK.cells("a part of the stash", x, 32, 13, 0, 0, 0, 13);
        CHECK.cells("a part of the stash", x, 33, 14, 0, 0, 0, 14);
        CHECK.cells("a part of the stash", x, 34, 15, 0, 0, 0, 11);
        CHECK.cells("a part of the stash", x, 35, 12, 0, 0, 0, 12);
        // Row 3 of five disks: parity on disk 1, blocks 12 .. 15 on disks 2, 3, 4, 0.
        x.crash(3, 0x00101);
        fails(x);
        CHECK.due("a part of the row: start", 2, x::start);
        CHECK.due("a part of the row", 16, () -> x.cell(0, 3, 0));
        CHECK.due("a part of the row", 13, () -> x.cell(2, 3, 0));
        CHECK.due("the added disk has not done its write", 0, () -> x.cell(4, 3, 0));
        CHECK.words("a part of the row", x, 9, 10, 11, 12, 13, 14, 15, 16, 17);
        CHECK.due("step", 4, x::step);
        CHECK.cells("the whole row", x, 3, 16, 13 ^ 14 ^ 15 ^ 16, 13, 14, 15);
    }

    // Promise 7

    private static void lose() {
        WideningArray x = States.filled(3);
        int[] bad = {3, -1, Integer.MAX_VALUE, Integer.MIN_VALUE};
        for (int d : bad) {
            CHECK.outOfBounds("lose(" + d + ")", Check.plain(() -> x.lose(d)));
        }
        CHECK.done("lose", () -> x.lose(2));
        CHECK.counts("lost", x, 3, 64, 0, 0, 0, 2, -1, 0);
        CHECK.cells("lost", x, 0, 1, 2, 0);
        CHECK.marks("lost", x, 1, 1, 1, 0);
        for (int b = 0; b < 64; b++) {
            CHECK.words("lost", x, b, b + 1);
        }
        CHECK.illegalArgument("lose two", Check.plain(() -> x.lose(0)));
        CHECK.illegalArgument("lose the same", Check.plain(() -> x.lose(2)));
        CHECK.outOfBounds("the first one told", Check.plain(() -> x.lose(3)));
        x.replace();
        CHECK.illegalArgument("lose with one not rebuilt", Check.plain(() -> x.lose(0)));
        CHECK.illegalArgument("lose the one not rebuilt", Check.plain(() -> x.lose(2)));
        x.rebuild();
        x.crash(1, 0);
        CHECK.illegalArgument("lose when power is to fail", Check.plain(() -> x.lose(0)));
        CHECK.outOfBounds("the first one told", Check.plain(() -> x.lose(3)));
        WideningArray y = States.widened(3, 1);
        CHECK.done("lose the added disk", () -> y.lose(3));
        for (int b = 0; b < 64; b++) {
            CHECK.words("the added disk lost", y, b, b + 1);
        }
    }

    // Promise 8

    private static void replace() {
        WideningArray x = States.filled(4);
        CHECK.illegalArgument("replace when none is lost", x::replace);
        x.lose(3);
        CHECK.due("replace", 3, x::replace);
        CHECK.counts("replaced", x, 4, 96, 0, 0, 0, -1, 3, 0);
        CHECK.cells("replaced", x, 0, 1, 2, 3, 0);
        CHECK.marks("replaced", x, 1, 1, 1, 1, 0);
        for (int b = 0; b < 96; b++) {
            CHECK.words("replaced", x, b, b + 1);
        }
        CHECK.illegalArgument("replace twice", x::replace);
        x.rebuild();
        CHECK.illegalArgument("replace a rebuilt one", x::replace);
    }

    // Promise 9

    private static void rebuild() {
        WideningArray x = States.widened(3, 6);
        CHECK.illegalArgument("rebuild when all are there", x::rebuild);
        x.lose(0);
        CHECK.illegalArgument("rebuild a lost one", x::rebuild);
        x.replace();
        CHECK.due("rebuild", 0, x::rebuild);
        CHECK.counts("rebuilt", x, 4, 64, 6, 1, 0, -1, -1, 0);
        CHECK.illegalArgument("rebuild twice", x::rebuild);
        CHECK.marks("the other place stays empty", x, 1, 0, 13, 13, 13);
        CHECK.marks("marks come to their place", x, 0, 14, 14, 14, 14);
        CHECK.cells("the stash is not rebuilt", x, 32, 0, 0, 0, 16);
        for (int r = 0; r < 32; r++) {
            int row = r;
            CHECK.due("good(" + row + ") after rebuild", true, () -> x.good(row));
        }
        for (int b = 0; b < 64; b++) {
            CHECK.words("rebuilt", x, b, b + 1);
        }
        // Row 5 of four disks: parity on disk 2, blocks 15, 16, 17 on disks 3, 0, 1.
        CHECK.cells("a new row", x, 5, 17, 18, 16 ^ 17 ^ 18, 16);
        // Row 6 of three disks: blocks 12, 13 on disks 0, 1.
        CHECK.cells("an old row", x, 6, 13, 14, 13 ^ 14, 0);

        x.lose(3);
        x.replace();
        x.rebuild();
        CHECK.cells("the added disk, a new row", x, 5, 17, 18, 16 ^ 17 ^ 18, 16);
        CHECK.cells("the added disk, an old row", x, 6, 13, 14, 13 ^ 14, 0);
    }

    private static void rebuildWhileStashed() {
        for (int k = 0; k < 4; k++) {
            int d = k;
            WideningArray x = States.stashed(3, 6);
            // The window is blocks 18 .. 20; power fails when row 6 is half laid.
            x.crash(1, 0x1010);
            fails(x);
            x.start();
            int[] before = new int[4];
            for (int e = 0; e < 4; e++) {
                before[e] = e == d ? 0 : x.cell(e, 6, 0);
            }
            x.lose(d);
            x.replace();
            CHECK.due("rebuild while stashed", d, x::rebuild);
            CHECK.cells("row done is left as it is", x, 6, before);
            CHECK.cells("the stash comes back", x, 32, 19, 0, 0, 19);
            CHECK.cells("the stash comes back", x, 34, 21, 0, 0, 21);
            CHECK.cells("and no more than the stash", x, 35, 0, 0, 0, 0);
            CHECK.due("marks while stashed", 15, () -> x.marks(d, 1));
            CHECK.due("no other marks", 0, () -> x.marks(d, 0));
            for (int b = 0; b < 64; b++) {
                CHECK.words("rebuilt while stashed", x, b, b + 1);
            }
            CHECK.due("step", 7, x::step);
            CHECK.due("row 6 is good", true, () -> x.good(6));
        }
    }

    // Promise 10

    private static void crash() {
        WideningArray x = States.made(3);
        int[] bad = {0, -1, Integer.MIN_VALUE};
        for (int w : bad) {
            CHECK.illegalArgument("crash(" + w + ", 0)", Check.plain(() -> x.crash(w, 0)));
        }
        CHECK.due("a refused crash", true, () -> x.write(0, 0, 1));
        x.lose(1);
        CHECK.illegalArgument("crash with a lost disk", Check.plain(() -> x.crash(1, 0)));
        x.replace();
        CHECK.illegalArgument("crash with one not rebuilt", Check.plain(() -> x.crash(1, 0)));
        x.rebuild();
        CHECK.done("crash", () -> x.crash(1, 0));
        CHECK.done("in place of what was told before", () -> x.crash(Integer.MAX_VALUE, 0x101));
        CHECK.counts("power is to fail", x, 3, 64, 0, 0, 0, -1, -1, 0);
        CHECK.due("a call without writes", 1, () -> x.read(0, 0));
        CHECK.outOfBounds("a call that throws", () -> x.write(64, 0, 0));
        CHECK.illegalArgument("a call that throws", x::step);
        CHECK.illegalState("start before power fails", x::start);
        CHECK.powerFails("the next call with writes", () -> x.write(0, 0, 5));
        CHECK.due("power has failed", 1, () -> x.count(7));
        CHECK.due("start", 0, x::start);
        CHECK.due("all did as told", 5, () -> x.read(0, 0));
        CHECK.due("power fails once", true, () -> x.write(0, 0, 6));
        CHECK.done("lose again", () -> x.lose(0));
    }

    private static void crashShares() {
        // Block 0 of five disks: itself on disk 0, its parity on disk 4.
        int[][] sharesAndWord = {{0, 1}, {1, 9}, {0x10000, 1}, {0x10001, 9}, {2, 1}, {15, 9},
            {0xfffe, 1}, {-1, 9}, {0x80000000, 1}, {-16, 1}};
        for (int[] told : sharesAndWord) {
            WideningArray x = States.made(5);
            x.write(0, 0, 1);
            x.crash(1, told[0]);
            CHECK.powerFails("write", () -> x.write(0, 0, 9));
            x.start();
            CHECK.words("crash(1, " + told[0] + ")", x, 0, told[1]);
            CHECK.cells("crash(1, " + told[0] + ")", x, 0, told[1], 0, 0, 0, told[1]);
        }
        // The stash of five blocks on disks 5 and 0: 13 modulo 6 is 1, 11 modulo 6 is 5.
        WideningArray x = States.widened(5, 0);
        x.crash(1, 0xd0000b);
        fails(x);
        x.start();
        for (int k = 0; k < 5; k++) {
            CHECK.cells("five wait", x, 32 + k, k + 1, 0, 0, 0, 0, k == 0 ? 1 : 0);
        }
    }

    // Promise 11

    private static void start() {
        CHECK.illegalState("start of nothing", new WideningArray()::start);
        WideningArray x = States.widened(3, 1);
        CHECK.illegalState("start with power", x::start);
        x.crash(1, 0);
        fails(x);
        CHECK.due("start when widened", 1, x::start);
        CHECK.counts("started", x, 4, 64, 1, 1, 0, -1, -1, 0);
        CHECK.illegalState("start twice", x::start);
        x.crash(2, 0);
        fails(x);
        CHECK.due("start without the marks", 1, x::start);
        CHECK.marks("no marks done", x, 1, 3, 3, 3, 3);
        x.crash(2, 0x100);
        fails(x);
        CHECK.due("start with a single copy", 2, x::start);
        CHECK.marks("a single copy", x, 1, 3, 3, 5, 3);
        CHECK.counts("stashed", x, 4, 64, 1, 1, 1, -1, -1, 0);
        x.crash(2, 0x1);
        fails(x);
        CHECK.due("start with a single copy", 1, x::start);
        CHECK.marks("a single copy", x, 0, 6, 4, 4, 4);
        CHECK.counts("a row more", x, 4, 64, 2, 1, 0, -1, -1, 0);
        CHECK.due("step", 3, x::step);
        CHECK.marks("marks go on from the highest", x, 1, 7, 7, 7, 7);
        CHECK.marks("marks go on from the highest", x, 0, 8, 8, 8, 8);
    }

    private static void startMendsParity() {
        WideningArray x = States.widened(3, 4);
        // Block 3 is data 0 of row 1 of four disks: on disk 3, its parity on disk 2.
        x.crash(1, 0x1000);
        CHECK.powerFails("write", () -> x.write(3, 0, 100));
        CHECK.due("start", 1, x::start);
        CHECK.cells("a new row's parity", x, 1, 5, 6, 100 ^ 5 ^ 6, 100);
        // Block 40 is data 0 of row 20 of three disks: on disk 1, its parity on disk 0.
        x.crash(1, 0x0010);
        CHECK.powerFails("write", () -> x.write(40, 0, 100));
        CHECK.due("start", 1, x::start);
        CHECK.cells("an old row's parity", x, 20, 100 ^ 42, 100, 42, 0);
        x.crash(1, 0x0001);
        CHECK.powerFails("write", () -> x.write(40, 0, 200));
        CHECK.due("start", 1, x::start);
        CHECK.cells("parity alone was written", x, 20, 100 ^ 42, 100, 42, 0);

        // Row done, not stashed, is old: its parity on disk 2, the added disk has no part in it.
        WideningArray z = States.widened(3, 0);
        z.crash(1, 0x0001);
        CHECK.powerFails("write", () -> z.write(0, 0, 100));
        CHECK.due("start", 1, z::start);
        CHECK.cells("parity of row done", z, 0, 100, 2, 100 ^ 2, 0);
        CHECK.due("good of row done", true, () -> z.good(0));

        WideningArray y = States.stashed(3, 4);
        // Row 4 of four disks: blocks 12, 13, 14 on disks 0, 1, 2; only disk 1 does its write.
        int[] before = {y.cell(0, 4, 0), 0, y.cell(2, 4, 0), y.cell(3, 4, 0)};
        y.crash(1, 0x0010);
        fails(y);
        CHECK.due("start", 2, y::start);
        CHECK.cells("row done is left alone", y, 4, before[0], 14, before[2], before[3]);
    }

    // Promise 12

    private static void good() {
        WideningArray x = States.filled(4);
        for (int r = 0; r < 32; r++) {
            int row = r;
            CHECK.due("good(" + row + ")", true, () -> x.good(row));
        }
        int[] bad = {32, -1, 39, Integer.MAX_VALUE, Integer.MIN_VALUE};
        for (int row : bad) {
            CHECK.outOfBounds("good(" + row + ")", () -> x.good(row));
        }
        x.lose(0);
        CHECK.illegalArgument("good with a lost disk", () -> x.good(0));
        CHECK.outOfBounds("the first one told", () -> x.good(32));
        x.replace();
        CHECK.illegalArgument("good with one not rebuilt", () -> x.good(0));
        x.rebuild();
        CHECK.due("good when rebuilt", true, () -> x.good(0));
        WideningArray y = States.stashed(4, 3);
        CHECK.due("good before row done", true, () -> y.good(2));
        CHECK.illegalArgument("good of row done", () -> y.good(3));
        CHECK.due("good behind row done", true, () -> y.good(4));
        y.step();
        CHECK.due("good of the row laid", true, () -> y.good(3));
        CHECK.due("good of row done, not stashed", true, () -> y.good(4));
    }

    // Promise 13

    private static void layout() {
        WideningArray x = States.stashed(3, 5);
        int[] want = {1, 1, 2, 2, 2, 0, 0};
        for (int k = 0; k < want.length; k++) {
            int b = 13 + k;
            CHECK.due("layout(" + b + ")", want[k], () -> x.layout(b));
        }
        CHECK.due("layout(0)", 1, () -> x.layout(0));
        CHECK.due("layout(63)", 0, () -> x.layout(63));
        x.step();
        CHECK.due("layout(17), not stashed", 1, () -> x.layout(17));
        CHECK.due("layout(18), not stashed", 0, () -> x.layout(18));
        int[] bad = {64, -1, Integer.MAX_VALUE, Integer.MIN_VALUE};
        for (int b : bad) {
            CHECK.outOfBounds("layout(" + b + ")", () -> x.layout(b));
        }
        CHECK.due("layout when not widened", 0, () -> States.made(3).layout(0));
        CHECK.due("layout at the end", 0, () -> States.widened(3, 32).layout(0));
    }

    // Promise 14

    private static void cell() {
        WideningArray x = States.made(3);
        x.write(63, 3, 8);
        // Row 31 of three disks: parity on disk 1, block 63 on disk 0.
        CHECK.due("cell", 8, () -> x.cell(0, 31, 3));
        CHECK.due("cell", 8, () -> x.cell(1, 31, 3));
        CHECK.due("cell", 0, () -> x.cell(2, 31, 3));
        CHECK.due("the last row", 0, () -> x.cell(2, 39, 3));
        int[][] bad = {{3, 0, 0}, {-1, 0, 0}, {0, 40, 0}, {0, -1, 0}, {0, 0, 4}, {0, 0, -1},
            {Integer.MAX_VALUE, 0, 0}, {0, Integer.MAX_VALUE, 0}, {0, 0, Integer.MIN_VALUE}};
        for (int[] at : bad) {
            CHECK.outOfBounds("cell(" + at[0] + ", " + at[1] + ", " + at[2] + ")",
                    () -> x.cell(at[0], at[1], at[2]));
        }
        x.lose(0);
        CHECK.due("a lost disk", 0, () -> x.cell(0, 31, 3));
        WideningArray y = States.widened(3, 1);
        CHECK.due("the added disk", 1 ^ 2 ^ 3, () -> y.cell(3, 0, 0));
        CHECK.outOfBounds("behind the added disk", () -> y.cell(4, 0, 0));
    }

    // Promise 15

    private static void marks() {
        WideningArray x = States.made(3);
        CHECK.marks("new", x, 1, 1, 1, 1);
        CHECK.marks("new", x, 0, 0, 0, 0);
        x.write(0, 0, 1);
        CHECK.marks("a write has no marks", x, 0, 0, 0, 0);
        x.widen();
        CHECK.marks("widened", x, 1, 1, 1, 1, 0);
        CHECK.marks("widened", x, 0, 2, 2, 2, 2);
        int[][] bad = {{0, 2}, {0, -1}, {4, 0}, {-1, 0}, {0, Integer.MIN_VALUE},
            {Integer.MAX_VALUE, 1}};
        for (int[] at : bad) {
            CHECK.outOfBounds("marks(" + at[0] + ", " + at[1] + ")", () -> x.marks(at[0], at[1]));
        }
        x.lose(2);
        x.step();
        CHECK.marks("a lost disk has none", x, 1, 3, 3, 0, 3);
        CHECK.marks("a lost disk has none", x, 0, 4, 4, 0, 4);
    }

    // Promise 16

    private static void count() {
        WideningArray x = States.stashed(5, 7);
        CHECK.counts("stashed", x, 6, 128, 7, 1, 1, -1, -1, 0, -1);
        int[] others = {-1, 8, 9, Integer.MAX_VALUE, Integer.MIN_VALUE};
        for (int what : others) {
            CHECK.due("count(" + what + ")", -1, () -> x.count(what));
        }
        x.lose(5);
        CHECK.counts("lost", x, 6, 128, 7, 1, 1, 5, -1, 0, -1);
        x.replace();
        CHECK.counts("replaced", x, 6, 128, 7, 1, 1, -1, 5, 0, -1);
        x.rebuild();
        CHECK.counts("rebuilt", x, 6, 128, 7, 1, 1, -1, -1, 0, -1);
        x.crash(1, 0);
        fails(x);
        CHECK.counts("without power", x, -1, -1, -1, -1, -1, -1, -1, 1, -1);
    }

    // The rule for all calls

    private static void noArrayAndNoPower() {
        WideningArray[] all = {new WideningArray(), States.withoutPower()};
        for (WideningArray x : all) {
            // Arguments that are wrong as well: the first exception told is thrown.
            CHECK.illegalState("write", () -> x.write(-1, 9, 0));
            CHECK.illegalState("read", () -> x.read(-1, 9));
            CHECK.illegalState("widen", x::widen);
            CHECK.illegalState("step", x::step);
            CHECK.illegalState("lose", Check.plain(() -> x.lose(-1)));
            CHECK.illegalState("replace", x::replace);
            CHECK.illegalState("rebuild", x::rebuild);
            CHECK.illegalState("crash", Check.plain(() -> x.crash(0, 0)));
            CHECK.illegalState("good", () -> x.good(-1));
            CHECK.illegalState("layout", () -> x.layout(-1));
            CHECK.illegalState("cell", () -> x.cell(-1, 0, 0));
            CHECK.illegalState("marks", () -> x.marks(-1, 0));
            CHECK.illegalArgument("format", () -> x.format(7));
        }
        CHECK.due("a refused format brings no power", 1, () -> all[1].count(7));
        CHECK.due("start", 0, all[1]::start);
        CHECK.due("read", 0, () -> all[1].read(0, 0));
    }
}
