/** Promises 4 to 7, the calls that are about receivers: a test for each sentence that names a boundary case. */
public final class CallTests extends Cases {
    public static void main(String[] args) {
        new CallTests().runAll();
    }

    // ---- promise 4

    @Holds(in = "Promise 4", words = {"Lets a receiver listen, or not", "`receiver`: 0 to 2"})
    void promise4Receivers0And2AreAllowed() {
        for (int r : new int[] {0, 2}) {
            MixedBlocks x = filled(8);
            due("listen(" + r + ", true)", x.listen(r, true), 0);
            due("count(2)", x.count(LISTENING), 1);
            mix(x, 0);
            due("it got", x.receiver(r, GOT), 1);
            due("another one got", x.receiver(2 - r, GOT), 0);
        }
    }

    @Holds(in = "Promise 4", words = "Throws `IndexOutOfBoundsException` if there is no such receiver")
    void promise4TheReceiverBelow0IsRefused() {
        refusedBelow(0, "listen", INDEX, (x, r) -> x.listen(r, true));
        refusedBelow(0, "listen", INDEX, (x, r) -> x.listen(r, false));
    }

    @Holds(in = "Promise 4", words = "Throws `IndexOutOfBoundsException` if there is no such receiver")
    void promise4Receiver3IsRefused() {
        refusedAbove(2, "listen", INDEX, (x, r) -> x.listen(r, true));
        refusedAbove(2, "listen", INDEX, (x, r) -> x.listen(r, false));
    }

    @Holds(in = "Promise 4", words = "Returns 1 if it did, otherwise 0.")
    void promise4ReturnsWhetherItDid() {
        MixedBlocks x = new MixedBlocks();
        due("listen(1, false) of one that does not", x.listen(1, false), 0);
        due("listen(1, true) of one that does not", x.listen(1, true), 0);
        due("listen(1, true) of one that does", x.listen(1, true), 1);
        due("listen(1, false) of one that does", x.listen(1, false), 1);
        due("listen(1, false) of one that does no more", x.listen(1, false), 0);
    }

    @Holds(in = "Promise 4", words = "`listens`: whether it listens from now on")
    void promise4ItListensFromNowOn() {
        MixedBlocks x = filled(8);
        mix(x, 0);
        x.listen(1, true);
        due("got of what was sent before", x.receiver(1, GOT), 0);
        mixes(x, new int[][] {{1}, {2, 3}});
        x.listen(1, false);
        mixes(x, new int[][] {{2}, {4}});
        numbers(x, 1, 0, 1, mask(1), 1, 2, 0, 0, 0, 2);
        x.listen(1, true);
        mix(x, 3);
        due("what waited is peeled", x.known(1, 2), valueOf(2));
    }

    @Holds(in = "Promise 4", words = "Undoable.")
    void promise4IsUndoable() {
        undone(Cases::young, "listen(0, false)", x -> x.listen(0, false));
        undone(Cases::young, "listen(0, true) of one that does", x -> x.listen(0, true));
        undone(Cases::young, "listen(2, true)", x -> x.listen(2, true));
    }

    // ---- promise 5

    @Holds(in = "Promise 5", words = {"Lets a receiver forget all blocks and waiting mixes", "`receiver`: 0 to 2"})
    void promise5Receivers0And2AreAllowed() {
        for (int r : new int[] {0, 2}) {
            MixedBlocks x = allHearing(8);
            mixes(x, new int[][] {{0}, {1, 2}});
            due("forget(" + r + ")", x.forget(r), 1);
            numbers(x, r, 1, 0, 0, 0, 2, 0, 0, 0, 0);
            numbers(x, 2 - r, 1, 1, 1, 1, 2, 0, 0, 0, 2);
            numbers(x, 1, 1, 1, 1, 1, 2, 0, 0, 0, 2);
        }
    }

    @Holds(in = "Promise 5", words = "Throws `IndexOutOfBoundsException` if there is no such receiver")
    void promise5TheReceiverBelow0IsRefused() {
        refusedBelow(0, "forget", INDEX, (x, r) -> x.forget(r));
    }

    @Holds(in = "Promise 5", words = "Throws `IndexOutOfBoundsException` if there is no such receiver")
    void promise5Receiver3IsRefused() {
        refusedAbove(2, "forget", INDEX, (x, r) -> x.forget(r));
    }

    @Holds(in = "Promise 5", words = "Returns how many blocks it knew.")
    void promise5Returns0OfWhoKnewNone() {
        due("forget(0) of a new object", new MixedBlocks().forget(0), 0);
        MixedBlocks x = full(8);
        due("forget(0) with 24 that wait", x.forget(0), 0);
        due("they are forgotten", x.receiver(0, WAITS), 0);
    }

    @Holds(in = "Promise 5", words = "Returns how many blocks it knew.")
    void promise5ReturnsAllBlocksOfWhoIsDone() {
        for (int n : new int[] {2, 12}) {
            MixedBlocks x = done(n);
            due("forget(0)", x.forget(0), n);
            due("forget(0) again", x.forget(0), 0);
            due("it is done no more", x.receiver(0, DONE), 0);
        }
    }

    @Holds(in = "Promise 5", words = "Lets a receiver forget all blocks and waiting mixes")
    void promise5ForgotWhatItKnewAndLearnsItAgain() {
        MixedBlocks x = done(8);
        x.forget(0);
        due("known(0, 7)", x.known(0, 7), NONE);
        due("send({7})", mix(x, 7), 1);
        due("send({6, 7})", mix(x, 6, 7), 1);
        due("told nothing new", x.receiver(0, NOTHING), 0);
    }

    @Holds(in = "Promise 5", words = "Undoable.")
    void promise5IsUndoable() {
        undone(Cases::young, "forget(0)", x -> x.forget(0));
        undone(Cases::young, "forget(2) of nothing", x -> x.forget(2));
    }

    // ---- promise 6

    @Holds(in = "Promise 6", words = "`mix`: 0 to 9999")
    void promise6TheMix0IsSent() {
        MixedBlocks x = hearing(8);
        due("send(0)", x.send(0), 1);
        due("known(0, 6)", x.known(0, 6), valueOf(6));
        due("count(1)", x.count(SENT), 1);
    }

    @Holds(in = "Promise 6", words = "`mix`: 0 to 9999")
    void promise6TheMix9999IsSent() {
        MixedBlocks x = hearing(8);
        due("send(9999)", x.send(9999), 0);
        due("waiting(0, 0, 0)", x.waiting(0, 0, 0), mask(2, 3, 6));
        due("waiting(0, 0, 1)", x.waiting(0, 0, 1), valueOfAll(2, 3, 6));
    }

    @Holds(in = "Promise 6", words = "Throws `IllegalArgumentException` if mix is out of range")
    void promise6TheMixBelow0IsRefused() {
        refusedBelow(0, "send", ARGUMENT, (x, k) -> x.send(k));
    }

    @Holds(in = "Promise 6", words = "Throws `IllegalArgumentException` if mix is out of range")
    void promise6TheMix10000IsRefused() {
        refusedAbove(9999, "send", ARGUMENT, (x, k) -> x.send(k));
    }

    @Holds(in = "Promise 6", words = "all receivers that listen get it")
    void promise6NoneListens() {
        MixedBlocks x = filled(8);
        due("send(0)", x.send(0), 0);
        due("count(1)", x.count(SENT), 1);
        for (int r = 0; r < 3; r++) {
            due("receiver(" + r + ", 4)", x.receiver(r, GOT), 0);
        }
    }

    @Holds(in = "Promise 6", words = "Returns how many blocks become known by it, of all receivers together.")
    void promise6AllThreeListen() {
        MixedBlocks x = allHearing(8);
        due("send({0})", mix(x, 0), 3);
        due("send({0}) again", mix(x, 0), 0);
        x.listen(1, false);
        due("send({1}) without receiver 1", mix(x, 1), 2);
        due("receiver(1, 4)", x.receiver(1, GOT), 2);
        due("receiver(2, 4)", x.receiver(2, GOT), 3);
    }

    @Holds(in = "Promise 6", words = "Returns how many blocks become known by it, of all receivers together.")
    void promise6All12BlocksOfAllThreeBecomeKnown() {
        MixedBlocks x = allHearing(12);
        for (int b = 0; b < 11; b++) {
            due("send of two", mix(x, b, b + 1), 0);
        }
        due("send({6})", mix(x, 6), 36);
        due("count(3)", x.count(ALL_DONE), 3);
    }

    @Holds(in = "Promise 6", words = "Returns how many blocks become known by it")
    void promise6NothingBecomesKnownByWhatIsLost() {
        MixedBlocks x = full(8);
        due("send({3, 5})", mix(x, 3, 5), 0);
        due("lost", x.receiver(0, LOST), 1);
        due("count(1)", x.count(SENT), 25);
    }

    @Holds(in = "Promise 6", words = "Undoable.")
    void promise6IsUndoable() {
        undone(Cases::young, "send(0)", x -> x.send(0));
        undone(Cases::young, "send(9999)", x -> x.send(9999));
        MixedBlocks x = new MixedBlocks();
        x.send(5);
        due("undo() of what nobody got", x.undo(), 0);
        due("count(1)", x.count(SENT), 0);
    }

    // ---- promise 7

    private static MixedBlocks allWait() {
        MixedBlocks x = allHearing(8);
        mixes(x, new int[][] {{1, 2}, {1, 2, 3}, {3, 5}});
        return x;
    }

    @Holds(in = "Promise 7", words = {"Lets a receiver eliminate.", "`receiver`: 0 to 2"})
    void promise7Receivers0And2AreAllowed() {
        for (int r : new int[] {0, 2}) {
            MixedBlocks x = allWait();
            due("eliminate(" + r + ")", x.eliminate(r), 2);
            numbers(x, r, 1, 2, mask(3, 5), 2, 3, 0, 0, 0, 3);
            numbers(x, 2 - r, 1, 0, 0, 3, 3, 0, 0, 0, 3);
            numbers(x, 1, 1, 0, 0, 3, 3, 0, 0, 0, 3);
        }
    }

    @Holds(in = "Promise 7", words = "Throws `IndexOutOfBoundsException` if there is no such receiver")
    void promise7TheReceiverBelow0IsRefused() {
        refusedBelow(0, "eliminate", INDEX, (x, r) -> x.eliminate(r));
    }

    @Holds(in = "Promise 7", words = "Throws `IndexOutOfBoundsException` if there is no such receiver")
    void promise7Receiver3IsRefused() {
        refusedAbove(2, "eliminate", INDEX, (x, r) -> x.eliminate(r));
    }

    @Holds(in = "Promise 7", words = "Returns how many blocks become known by it.")
    void promise7NothingWaits() {
        due("eliminate(0) of a new object", new MixedBlocks().eliminate(0), 0);
        due("eliminate(0) of who is done", done(8).eliminate(0), 0);
    }

    @Holds(in = "Promise 7", words = "Returns how many blocks become known by it.")
    void promise7AllBlocksBecomeKnown() {
        MixedBlocks x = hearing(12);
        for (int b = 0; b < 11; b++) {
            mix(x, b, b + 1);
        }
        mix(x, 9, 10, 11);
        due("eliminate(0)", x.eliminate(0), 12);
        due("done", x.receiver(0, DONE), 1);
        due("waits", x.receiver(0, WAITS), 0);
        due("eliminate(0) again", x.eliminate(0), 0);
    }

    @Holds(in = "Promise 7", words = "Lets a receiver eliminate.")
    void promise7AlsoOneThatDoesNotListen() {
        MixedBlocks x = allWait();
        x.listen(1, false);
        due("eliminate(1)", x.eliminate(1), 2);
        due("receiver(1, 0)", x.receiver(1, LISTENS), 0);
        due("count(1)", x.count(SENT), 3);
        due("receiver(1, 4)", x.receiver(1, GOT), 3);
    }

    @Holds(in = "Promise 7", words = "Undoable.")
    void promise7IsUndoable() {
        undone(Cases::young, "eliminate(0)", x -> x.eliminate(0));
        undone(MixedBlocks::new, "eliminate(0) of nothing", x -> x.eliminate(0));
        MixedBlocks x = allWait();
        x.eliminate(0);
        x.undo();
        numbers(x, 0, 1, 0, 0, 3, 3, 0, 0, 0, 3);
        due("the last one is whole again", x.waiting(0, 2, 0), mask(3, 5));
    }
}
