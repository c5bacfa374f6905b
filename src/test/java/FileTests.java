/** Promises 1 to 3: a test for each sentence that names a boundary case. */
public final class FileTests extends Cases {
    public static void main(String[] args) {
        new FileTests().runAll();
    }

    // ---- promise 1

    @Holds(in = "Promise 1", words = "Creates a file of 8 blocks")
    void promise1TheFileHas8BlocksOf0() {
        MixedBlocks x = new MixedBlocks();
        due("count(0)", x.count(BLOCKS), 8);
        due("count(4)", x.count(TOGETHER), 0);
        due("block(0)", x.block(0), 0);
        due("block(7)", x.block(7), 0);
        due("count(1)", x.count(SENT), 0);
    }

    @Holds(in = "Promise 1", words = "and receivers that do not listen")
    void promise1NoReceiverListensOrKnowsOrGot() {
        MixedBlocks x = new MixedBlocks();
        due("count(2)", x.count(LISTENING), 0);
        due("count(3)", x.count(ALL_DONE), 0);
        for (int r = 0; r < 3; r++) {
            numbers(x, r, 0, 0, 0, 0, 0, 0, 0, 0, 0);
            due("use(" + r + ")", x.use(r), 1.0);
        }
    }

    @Holds(in = "Promise 1", words = "with an empty buffer")
    void promise1TheBufferIsEmpty() {
        due("clearBuffer()", new MixedBlocks().clearBuffer(), 0);
        due("firstError()", new MixedBlocks().firstError(), 0);
        due("append('5')", new MixedBlocks().append('5'), 1);
    }

    @Holds(in = "Promise 1", words = "Creates a file")
    void promise1NoStateIsSaved() {
        MixedBlocks x = new MixedBlocks();
        due("count(5)", x.count(SAVED), 0);
        refused(MixedBlocks::new, "undo()", STATE, MixedBlocks::undo);
    }

    @Holds(in = "Promise 1", words = "Creates a file")
    void promise1TwoObjectsHaveNothingInCommon() {
        MixedBlocks x = busy();
        MixedBlocks y = new MixedBlocks();
        y.write(0, 1);
        y.append('x');
        same("calls of another object", x, busy());
        due("block(0) of the other", y.block(0), 1);
    }

    // ---- promise 2

    @Holds(in = "Promise 2", words = {"`blocks`: 2 to 12", "Changes the number of blocks"})
    void promise2SizeOf2IsAllowed() {
        MixedBlocks x = filled(8);
        due("size(2)", x.size(2), 8);
        due("count(0)", x.count(BLOCKS), 2);
        due("block(1)", x.block(1), valueOf(1));
    }

    @Holds(in = "Promise 2", words = {"`blocks`: 2 to 12", "Changes the number of blocks"})
    void promise2SizeOf12IsAllowed() {
        MixedBlocks x = filled(8);
        due("size(12)", x.size(12), 8);
        due("count(0)", x.count(BLOCKS), 12);
        due("block(7)", x.block(7), valueOf(7));
        due("block(11)", x.block(11), 0);
    }

    @Holds(in = "Promise 2",
        words = {"`blocks`: 2 to 12", "Throws `IllegalArgumentException` if blocks is out of range"})
    void promise2SizeOf1IsRefused() {
        refusedBelow(2, "size", ARGUMENT, (x, n) -> x.size(n));
        refused(Cases::busy, "size(0)", ARGUMENT, x -> x.size(0));
        refused(Cases::busy, "size(-1)", ARGUMENT, x -> x.size(-1));
    }

    @Holds(in = "Promise 2",
        words = {"`blocks`: 2 to 12", "Throws `IllegalArgumentException` if blocks is out of range"})
    void promise2SizeOf13IsRefused() {
        refusedAbove(12, "size", ARGUMENT, (x, n) -> x.size(n));
    }

    @Holds(in = "Promise 2", words = "those that come are 0")
    void promise2BlocksThatComeAre0() {
        MixedBlocks x = filled(8);
        x.size(9);
        due("block(7)", x.block(7), valueOf(7));
        due("block(8)", x.block(8), 0);
        refused(() -> resized(8, 9), "block(9)", INDEX, y -> y.block(9));
    }

    @Holds(in = "Promise 2", words = "those that come are 0")
    void promise2BlocksThatWereThereBeforeComeAs0() {
        MixedBlocks x = filled(12);
        x.size(2);
        x.size(12);
        due("block(0)", x.block(0), valueOf(0));
        due("block(1)", x.block(1), valueOf(1));
        for (int b = 2; b < 12; b++) {
            due("block(" + b + ")", x.block(b), 0);
        }
        due("count(4)", x.count(TOGETHER), valueOfAll(0, 1));
    }

    @Holds(in = "Promise 2", words = "Changes the number of blocks")
    void promise2TheLastBlockGoes() {
        MixedBlocks x = resized(8, 7);
        due("block(6)", x.block(6), valueOf(6));
        due("count(4)", x.count(TOGETHER), valueOfAll(0, 1, 2, 3, 4, 5, 6));
        refused(() -> resized(8, 7), "block(7)", INDEX, y -> y.block(7));
    }

    private static MixedBlocks resized(int before, int n) {
        MixedBlocks x = filled(before);
        x.size(n);
        return x;
    }

    @Holds(in = "Promise 2", words = "Returns the previous number.")
    void promise2ReturnsThePreviousNumber() {
        MixedBlocks x = new MixedBlocks();
        due("size(8) of 8", x.size(8), 8);
        due("size(2) of 8", x.size(2), 8);
        due("size(2) of 2", x.size(2), 2);
        due("size(12) of 2", x.size(12), 2);
        due("size(12) of 12", x.size(12), 12);
    }

    @Holds(in = "Promise 2", words = "Undoable.")
    void promise2IsUndoable() {
        undone(Cases::young, "size(2)", x -> x.size(2));
        undone(Cases::young, "size(8)", x -> x.size(8));
        undone(Cases::young, "size(12)", x -> x.size(12));
    }

    // ---- promise 3

    @Holds(in = "Promise 3", words = {"Changes a block.", "`block`: its number"})
    void promise3TheFirstAndTheLastBlockAreWritten() {
        for (int n : new int[] {2, 8, 12}) {
            MixedBlocks x = new MixedBlocks();
            x.size(n);
            due("write(0, 5)", x.write(0, 5), 0);
            due("write(" + (n - 1) + ", 6)", x.write(n - 1, 6), 0);
            due("block(0)", x.block(0), 5);
            due("block(" + (n - 1) + ")", x.block(n - 1), 6);
            due("count(4)", x.count(TOGETHER), 5 ^ 6);
        }
    }

    @Holds(in = "Promise 3", words = "Throws `IndexOutOfBoundsException` if there is no such block")
    void promise3TheBlockBelow0IsRefused() {
        refusedBelow(0, "write", INDEX, (x, b) -> x.write(b, 0));
    }

    @Holds(in = "Promise 3", words = "Throws `IndexOutOfBoundsException` if there is no such block")
    void promise3TheBlockBehindTheLastIsRefused() {
        refusedAbove(7, "write", INDEX, (x, b) -> x.write(b, 0));
        refused(() -> resized(8, 2), "write(2, 0) of 2", INDEX, x -> x.write(2, 0));
        refused(() -> resized(8, 12), "write(12, 0) of 12", INDEX, x -> x.write(12, 0));
    }

    @Holds(in = "Promise 3", words = "`value`: 0 to 65535")
    void promise3TheValue0IsAllowed() {
        MixedBlocks x = filled(8);
        due("write(4, 0)", x.write(4, 0), valueOf(4));
        due("block(4)", x.block(4), 0);
    }

    @Holds(in = "Promise 3", words = "`value`: 0 to 65535")
    void promise3TheValue65535IsAllowed() {
        MixedBlocks x = filled(8);
        due("write(4, 65535)", x.write(4, 65535), valueOf(4));
        due("block(4)", x.block(4), 65535);
    }

    @Holds(in = "Promise 3", words = "Throws `IllegalArgumentException` if value is out of range")
    void promise3TheValueBelow0IsRefused() {
        refusedBelow(0, "write(0, ..)", ARGUMENT, (x, value) -> x.write(0, value));
    }

    @Holds(in = "Promise 3", words = "Throws `IllegalArgumentException` if value is out of range")
    void promise3TheValue65536IsRefused() {
        refusedAbove(65535, "write(0, ..)", ARGUMENT, (x, value) -> x.write(0, value));
    }

    @Holds(in = "Promise 3", words = "Returns the previous value.")
    void promise3ReturnsThePreviousValue() {
        MixedBlocks x = new MixedBlocks();
        due("write(7, 65535) of 0", x.write(7, 65535), 0);
        due("write(7, 65535) of 65535", x.write(7, 65535), 65535);
        due("write(7, 0) of 65535", x.write(7, 0), 65535);
        due("write(7, 0) of 0", x.write(7, 0), 0);
    }

    @Holds(in = "Promise 3", words = "Undoable.")
    void promise3IsUndoable() {
        undone(Cases::young, "write(7, 65535)", x -> x.write(7, 65535));
        undone(Cases::young, "write(0, 65535) of it", x -> x.write(0, 65535));
    }
}
