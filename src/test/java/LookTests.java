/** Promises 13 to 18: a test for each sentence that names a boundary case. */
public final class LookTests extends Cases {
    public static void main(String[] args) {
        new LookTests().runAll();
    }

    // ---- promise 13

    @Holds(in = "Promise 13", words = {"Returns something of a mix.", "`mix`: 0 to 9999", "Returns the number."})
    void promise13TheMix0() {
        MixedBlocks x = filled(8);
        due("mix(0, 0)", x.mix(0, 0), 1);
        due("mix(0, 1)", x.mix(0, 1), mask(6));
        due("mix(0, 2)", x.mix(0, 2), valueOf(6));
    }

    @Holds(in = "Promise 13", words = "`mix`: 0 to 9999")
    void promise13TheMix9999() {
        MixedBlocks x = filled(8);
        due("mix(9999, 0)", x.mix(9999, 0), 3);
        due("mix(9999, 1)", x.mix(9999, 1), mask(2, 3, 6));
        due("mix(9999, 2)", x.mix(9999, 2), valueOfAll(2, 3, 6));
    }

    @Holds(in = "Promise 13", words = "Throws `IllegalArgumentException` if mix or what is out of range")
    void promise13TheMixBelow0IsRefused() {
        refusedBelow(0, "mix(.., 0)", ARGUMENT, (x, k) -> x.mix(k, 0));
    }

    @Holds(in = "Promise 13", words = "Throws `IllegalArgumentException` if mix or what is out of range")
    void promise13TheMix10000IsRefused() {
        refusedAbove(9999, "mix(.., 0)", ARGUMENT, (x, k) -> x.mix(k, 0));
    }

    @Holds(in = "Promise 13", words = {"`what`: 0: how many blocks it has", "if mix or what is out of range"})
    void promise13WhatBelow0IsRefused() {
        refusedBelow(0, "mix(0, ..)", ARGUMENT, (x, what) -> x.mix(0, what));
    }

    @Holds(in = "Promise 13", words = {"2: its value", "if mix or what is out of range"})
    void promise13What3IsRefused() {
        refusedAbove(2, "mix(0, ..)", ARGUMENT, (x, what) -> x.mix(0, what));
    }

    @Holds(in = "Promise 13", words = "1: a mask of them, with the bit b for the block b")
    void promise13TheMaskOfTheFirstAndTheLastBlock() {
        MixedBlocks x = filled(12);
        due("mask of {0}", x.mix(numberOf(12, 0), 1), 1);
        due("mask of {11}", x.mix(numberOf(12, 11), 1), 2048);
        due("mask of {0, 11}", x.mix(numberOf(12, 0, 11), 1), 2049);
    }

    @Holds(in = "Promise 13", words = "2: its value")
    void promise13TheValueIsThatOfTheFileNow() {
        MixedBlocks x = filled(8);
        x.write(6, 65535);
        due("mix(0, 2)", x.mix(0, 2), 65535);
        x.undo();
        due("mix(0, 2) behind undo", x.mix(0, 2), valueOf(6));
    }

    @Holds(in = "Promise 13", words = "Returns something of a mix.")
    void promise13ChangesNothing() {
        looks(Cases::busy, "mix(9999, 2)", x -> x.mix(9999, 2));
    }

    // ---- promise 14

    @Holds(in = "Promise 14", words = {"Returns something of a receiver.", "`receiver`: 0 to 2", "Returns the number."})
    void promise14Receivers0And2() {
        MixedBlocks x = hearing(8);
        x.listen(2, true);
        mix(x, 7);
        due("receiver(0, 2)", x.receiver(0, MASK), mask(7));
        due("receiver(1, 2)", x.receiver(1, MASK), 0);
        due("receiver(2, 2)", x.receiver(2, MASK), mask(7));
    }

    @Holds(in = "Promise 14", words = "Throws `IndexOutOfBoundsException` if there is no such receiver")
    void promise14TheReceiverBelow0IsRefused() {
        refusedBelow(0, "receiver(.., 0)", INDEX, (x, r) -> x.receiver(r, 0));
    }

    @Holds(in = "Promise 14", words = "Throws `IndexOutOfBoundsException` if there is no such receiver")
    void promise14Receiver3IsRefused() {
        refusedAbove(2, "receiver(.., 8)", INDEX, (x, r) -> x.receiver(r, 8));
    }

    @Holds(in = "Promise 14", words = "Throws `IllegalArgumentException` if what is not 0 to 8")
    void promise14WhatBelow0IsRefused() {
        refusedBelow(0, "receiver(0, ..)", ARGUMENT, (x, what) -> x.receiver(0, what));
    }

    @Holds(in = "Promise 14", words = "Throws `IllegalArgumentException` if what is not 0 to 8")
    void promise14What9IsRefused() {
        refusedAbove(8, "receiver(0, ..)", ARGUMENT, (x, what) -> x.receiver(0, what));
    }

    @Holds(in = "Promise 14",
        words = {"0: 1 if it listens, otherwise 0", "1: how many blocks it knows; 2: a mask of them",
        "7: 1 if it is done, otherwise 0; 8: its rank"})
    void promise14AllNumbersOfWhoGotNothing() {
        MixedBlocks x = hearing(12);
        numbers(x, 0, 1, 0, 0, 0, 0, 0, 0, 0, 0);
        numbers(x, 2, 0, 0, 0, 0, 0, 0, 0, 0, 0);
    }

    @Holds(in = "Promise 14",
        words = {"1: how many blocks it knows; 2: a mask of them", "7: 1 if it is done, otherwise 0",
        "8: its rank"})
    void promise14AllNumbersOfWhoIsDone() {
        numbers(done(2), 0, 1, 2, 3, 0, 2, 0, 0, 1, 2);
        numbers(done(12), 0, 1, 12, 4095, 0, 12, 0, 0, 1, 12);
    }

    @Holds(in = "Promise 14", words = {"3: mixes that wait; 4: mixes that it got so far",
        "5: of these those that told nothing new; 6: of these those that were lost"})
    void promise14AllNumbersOfWhoIsFull() {
        MixedBlocks x = full(8);
        numbers(x, 0, 1, 0, 0, 24, 24, 0, 0, 0, 2);
        mixes(x, new int[][] {{3, 5}, {4}, {4}, {4}, {3, 5, 6}});
        numbers(x, 0, 1, 1, mask(4), 24, 29, 2, 2, 0, 3);
    }

    @Holds(in = "Promise 14", words = "mixes that it got so far; 5: of these those that told nothing new; 6: of these")
    void promise14WhatIsCountedStaysWhenAllIsForgotten() {
        MixedBlocks x = full(8);
        mixes(x, new int[][] {{3, 5}, {4}, {4}});
        x.forget(0);
        numbers(x, 0, 1, 0, 0, 0, 27, 1, 1, 0, 0);
        x.size(9);
        numbers(x, 0, 1, 0, 0, 0, 27, 1, 1, 0, 0);
        x.listen(0, false);
        numbers(x, 0, 0, 0, 0, 0, 27, 1, 1, 0, 0);
    }

    @Holds(in = "Promise 14", words = "Returns something of a receiver.")
    void promise14ChangesNothing() {
        for (int what = 0; what <= 8; what++) {
            int asked = what;
            looks(Cases::busy, "receiver(0, " + what + ")", x -> x.receiver(0, asked));
        }
    }

    // ---- promise 15

    @Holds(in = "Promise 15", words = {"Returns a block as a receiver knows it.", "`receiver`: 0 to 2"})
    void promise15Receivers0And2() {
        MixedBlocks x = filled(8);
        x.listen(2, true);
        mix(x, 3);
        due("known(0, 3)", x.known(0, 3), NONE);
        due("known(2, 3)", x.known(2, 3), valueOf(3));
    }

    @Holds(in = "Promise 15", words = "Throws `IndexOutOfBoundsException` if there is no such receiver or block")
    void promise15TheReceiverBelow0IsRefused() {
        refusedBelow(0, "known(.., 0)", INDEX, (x, r) -> x.known(r, 0));
    }

    @Holds(in = "Promise 15", words = "Throws `IndexOutOfBoundsException` if there is no such receiver or block")
    void promise15Receiver3IsRefused() {
        refusedAbove(2, "known(.., 0)", INDEX, (x, r) -> x.known(r, 0));
    }

    @Holds(in = "Promise 15", words = {"`block`: the number of the block", "Returns its value"})
    void promise15TheFirstAndTheLastBlock() {
        for (int n : new int[] {2, 8, 12}) {
            MixedBlocks x = done(n);
            due("known(0, 0)", x.known(0, 0), valueOf(0));
            due("known(0, " + (n - 1) + ")", x.known(0, n - 1), valueOf(n - 1));
        }
    }

    @Holds(in = "Promise 15", words = "Throws `IndexOutOfBoundsException` if there is no such receiver or block")
    void promise15TheBlockBelow0IsRefused() {
        refusedBelow(0, "known(0, ..)", INDEX, (x, b) -> x.known(0, b));
    }

    @Holds(in = "Promise 15", words = "Throws `IndexOutOfBoundsException` if there is no such receiver or block")
    void promise15TheBlockBehindTheLastIsRefused() {
        refusedAbove(7, "known(0, ..)", INDEX, (x, b) -> x.known(0, b));
        refused(() -> done(2), "known(0, 2) of 2", INDEX, x -> x.known(0, 2));
        refused(() -> done(12), "known(0, 12) of 12", INDEX, x -> x.known(0, 12));
    }

    @Holds(in = "Promise 15", words = "NONE if the receiver does not know it")
    void promise15ABlockOf0ThatIsKnownAndOneThatIsNot() {
        MixedBlocks x = new MixedBlocks();
        x.listen(0, true);
        mix(x, 3);
        due("known(0, 3)", x.known(0, 3), 0);
        due("known(0, 4)", x.known(0, 4), NONE);
    }

    @Holds(in = "Promise 15", words = "Returns its value")
    void promise15ABlockOf65535() {
        MixedBlocks x = hearing(8);
        x.write(3, 65535);
        mix(x, 3);
        due("known(0, 3)", x.known(0, 3), 65535);
    }

    @Holds(in = "Promise 15", words = "Returns a block as a receiver knows it.")
    void promise15ChangesNothing() {
        looks(Cases::busy, "known(0, 4)", x -> x.known(0, 4));
    }

    // ---- promise 16

    @Holds(in = "Promise 16", words = {"Returns something of a mix that waits.", "`receiver`: 0 to 2"})
    void promise16Receivers0And2() {
        MixedBlocks x = filled(8);
        x.listen(2, true);
        mix(x, 3, 4);
        due("waiting(0, 0, 0)", x.waiting(0, 0, 0), NONE);
        due("waiting(2, 0, 0)", x.waiting(2, 0, 0), mask(3, 4));
        due("waiting(2, 0, 1)", x.waiting(2, 0, 1), valueOfAll(3, 4));
    }

    @Holds(in = "Promise 16", words = "Throws `IndexOutOfBoundsException` if there is no such receiver")
    void promise16TheReceiverBelow0IsRefused() {
        refusedBelow(0, "waiting(.., 0, 0)", INDEX, (x, r) -> x.waiting(r, 0, 0));
    }

    @Holds(in = "Promise 16", words = "Throws `IndexOutOfBoundsException` if there is no such receiver")
    void promise16Receiver3IsRefused() {
        refusedAbove(2, "waiting(.., 0, 0)", INDEX, (x, r) -> x.waiting(r, 0, 0));
    }

    @Holds(in = "Promise 16", words = "`place`: its place in the order in which they came, from 0")
    void promise16TheFirstPlaceAndThe24th() {
        MixedBlocks x = full(8);
        due("waiting(0, 0, 0)", x.waiting(0, 0, 0), mask(0, 1));
        due("waiting(0, 0, 1)", x.waiting(0, 0, 1), valueOfAll(0, 1));
        due("waiting(0, 23, 0)", x.waiting(0, 23, 0), mask(1, 2));
        due("waiting(0, 23, 1)", x.waiting(0, 23, 1), valueOfAll(1, 2));
    }

    @Holds(in = "Promise 16", words = "NONE if there are not so many")
    void promise16ThePlaceBehindTheLast() {
        MixedBlocks x = hearing(8);
        due("waiting(0, 0, 0) of none", x.waiting(0, 0, 0), NONE);
        due("waiting(0, 0, 1) of none", x.waiting(0, 0, 1), NONE);
        mix(x, 3, 4);
        due("waiting(0, 0, 0) of one", x.waiting(0, 0, 0), mask(3, 4));
        due("waiting(0, 1, 0) of one", x.waiting(0, 1, 0), NONE);
        due("waiting(0, 1, 1) of one", x.waiting(0, 1, 1), NONE);
    }

    @Holds(in = "Promise 16", words = "NONE if there are not so many")
    void promise16ThePlaceBehindThe24thAndTheLastInt() {
        MixedBlocks x = full(8);
        for (int place : new int[] {24, 25, 100, Integer.MAX_VALUE}) {
            due("waiting(0, " + place + ", 0)", x.waiting(0, place, 0), NONE);
            due("waiting(0, " + place + ", 1)", x.waiting(0, place, 1), NONE);
        }
    }

    @Holds(in = "Promise 16", words = "NONE if there are not so many")
    void promise16ThePlaceOfOneThatIsGone() {
        MixedBlocks x = hearing(8);
        mixes(x, new int[][] {{3, 4}, {5, 6}, {3}});
        due("waiting(0, 0, 0)", x.waiting(0, 0, 0), mask(5, 6));
        due("waiting(0, 1, 0)", x.waiting(0, 1, 0), NONE);
        x.forget(0);
        due("waiting(0, 0, 0) behind forget", x.waiting(0, 0, 0), NONE);
    }

    @Holds(in = "Promise 16", words = "Throws `IllegalArgumentException` if place is below 0, or what is not 0 or 1")
    void promise16ThePlaceBelow0IsRefused() {
        refusedBelow(0, "waiting(0, .., 0)", ARGUMENT, (x, place) -> x.waiting(0, place, 0));
        refused(MixedBlocks::new, "waiting(0, -1, 0) of none", ARGUMENT, x -> x.waiting(0, -1, 0));
    }

    @Holds(in = "Promise 16", words = {"`what`: 0: a mask of the blocks that are left", "or what is not 0 or 1"})
    void promise16WhatBelow0IsRefused() {
        refusedBelow(0, "waiting(0, 0, ..)", ARGUMENT, (x, what) -> x.waiting(0, 0, what));
        refused(MixedBlocks::new, "waiting(0, 0, -1) of none", ARGUMENT, x -> x.waiting(0, 0, -1));
    }

    @Holds(in = "Promise 16", words = {"1: the value that is left", "or what is not 0 or 1"})
    void promise16What2IsRefused() {
        refusedAbove(1, "waiting(0, 0, ..)", ARGUMENT, (x, what) -> x.waiting(0, 0, what));
        refused(MixedBlocks::new, "waiting(0, 0, 2) of none", ARGUMENT, x -> x.waiting(0, 0, 2));
    }

    @Holds(in = "Promise 16", words = "1: the value that is left")
    void promise16AValueOf0AndOf65535() {
        MixedBlocks x = new MixedBlocks();
        x.write(0, 65535);
        x.write(1, 65535);
        x.listen(0, true);
        mixes(x, new int[][] {{0, 1}, {1, 2}});
        due("waiting(0, 0, 1)", x.waiting(0, 0, 1), 0);
        due("waiting(0, 1, 1)", x.waiting(0, 1, 1), 65535);
    }

    @Holds(in = "Promise 16", words = "Returns something of a mix that waits.")
    void promise16ChangesNothing() {
        looks(Cases::busy, "waiting(0, 23, 1)", x -> x.waiting(0, 23, 1));
        looks(Cases::busy, "waiting(0, 24, 1)", x -> x.waiting(0, 24, 1));
    }

    // ---- promise 17

    @Holds(in = "Promise 17", words = "Throws `IllegalArgumentException` if what is not 0 to 5")
    void promise17WhatBelow0IsRefused() {
        refusedBelow(0, "count", ARGUMENT, (x, what) -> x.count(what));
    }

    @Holds(in = "Promise 17", words = "Throws `IllegalArgumentException` if what is not 0 to 5")
    void promise17What6IsRefused() {
        refusedAbove(5, "count", ARGUMENT, (x, what) -> x.count(what));
    }

    @Holds(in = "Promise 17", words = {"`what`: 0: blocks of the file", "Returns the number."})
    void promise17BlocksFrom2To12() {
        MixedBlocks x = new MixedBlocks();
        for (int n = 2; n <= 12; n++) {
            x.size(n);
            due("count(0)", x.count(BLOCKS), n);
        }
    }

    @Holds(in = "Promise 17", words = "1: mixes that were sent so far")
    void promise17SentBySendAndBySendAll() {
        MixedBlocks x = filled(8);
        due("count(1) of none", x.count(SENT), 0);
        x.send(5);
        due("count(1) that nobody got", x.count(SENT), 1);
        type(x, "0-9999");
        x.sendAll();
        due("count(1) with 100 more", x.count(SENT), 101);
        x.size(2);
        x.forget(0);
        due("count(1) goes on", x.count(SENT), 101);
    }

    @Holds(in = "Promise 17", words = "2: receivers that listen")
    void promise17ListeningFrom0To3() {
        MixedBlocks x = filled(8);
        due("count(2) of none", x.count(LISTENING), 0);
        for (int r = 0; r < 3; r++) {
            x.listen(r, true);
            due("count(2) with receiver " + r, x.count(LISTENING), r + 1);
        }
        x.listen(0, false);
        due("count(2) without receiver 0", x.count(LISTENING), 2);
    }

    @Holds(in = "Promise 17", words = "3: receivers that are done")
    void promise17DoneFrom0To3() {
        MixedBlocks x = allHearing(2);
        due("count(3) of none", x.count(ALL_DONE), 0);
        mix(x, 0);
        due("count(3) with one block", x.count(ALL_DONE), 0);
        x.listen(1, false);
        mix(x, 1);
        due("count(3) of two", x.count(ALL_DONE), 2);
        x.listen(1, true);
        mix(x, 1);
        due("count(3) of three", x.count(ALL_DONE), 3);
        x.listen(2, false);
        due("count(3) when one does not listen", x.count(ALL_DONE), 3);
        x.forget(2);
        due("count(3) when one has forgotten", x.count(ALL_DONE), 2);
    }

    @Holds(in = "Promise 17", words = "4: all blocks of the file, put together by XOR")
    void promise17TogetherOf2AndOf12() {
        due("count(4) of 2", filled(2).count(TOGETHER), valueOfAll(0, 1));
        due("count(4) of 12", filled(12).count(TOGETHER), valueOfAll(0, 1, 2, 3, 4, 5, 6, 7, 8, 9, 10, 11));
        MixedBlocks x = new MixedBlocks();
        x.write(0, 65535);
        due("count(4) of one 65535", x.count(TOGETHER), 65535);
        x.write(7, 65535);
        due("count(4) of two 65535", x.count(TOGETHER), 0);
    }

    @Holds(in = "Promise 17", words = "5: saved states")
    void promise17SavedFrom0To6() {
        MixedBlocks x = new MixedBlocks();
        due("count(5) of none", x.count(SAVED), 0);
        for (int i = 1; i <= 8; i++) {
            x.send(i);
            due("count(5) behind " + i, x.count(SAVED), Math.min(6, i));
        }
    }

    @Holds(in = "Promise 17", words = "Returns a number.")
    void promise17ChangesNothing() {
        for (int what = 0; what <= 5; what++) {
            int asked = what;
            looks(Cases::busy, "count(" + what + ")", x -> x.count(asked));
        }
    }

    // ---- promise 18

    @Holds(in = "Promise 18", words = {"Returns a block of the file.", "`block`: its number", "Returns its value."})
    void promise18TheFirstAndTheLastBlock() {
        for (int n : new int[] {2, 8, 12}) {
            MixedBlocks x = filled(n);
            due("block(0)", x.block(0), valueOf(0));
            due("block(" + (n - 1) + ")", x.block(n - 1), valueOf(n - 1));
        }
    }

    @Holds(in = "Promise 18", words = "Throws `IndexOutOfBoundsException` if there is no such block")
    void promise18TheBlockBelow0IsRefused() {
        refusedBelow(0, "block", INDEX, (x, b) -> x.block(b));
    }

    @Holds(in = "Promise 18", words = "Throws `IndexOutOfBoundsException` if there is no such block")
    void promise18TheBlockBehindTheLastIsRefused() {
        refusedAbove(7, "block", INDEX, (x, b) -> x.block(b));
        refused(() -> filled(2), "block(2) of 2", INDEX, x -> x.block(2));
        refused(() -> filled(12), "block(12) of 12", INDEX, x -> x.block(12));
    }

    @Holds(in = "Promise 18", words = "Returns a block of the file.")
    void promise18ChangesNothing() {
        looks(Cases::busy, "block(7)", x -> x.block(7));
    }
}
