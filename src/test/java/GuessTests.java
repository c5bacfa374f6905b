/** Promises 19 to 24, what would be: a test for each sentence that names a boundary case. */
public final class GuessTests extends Cases {
    public static void main(String[] args) {
        new GuessTests().runAll();
    }

    // ---- promise 19

    @Holds(in = "Promise 19",
        words = {"Tells what a mix would bring a receiver", "`receiver`: 0 to 2", "Returns the number."})
    void promise19Receivers0And2() {
        MixedBlocks x = hearing(8);
        mix(x, 0);
        int k = numberOf(8, 0, 1);
        due("ifGot(0, {0, 1}, 0)", x.ifGot(0, k, 0), 1);
        due("ifGot(0, {0, 1}, 1)", x.ifGot(0, k, 1), 2);
        due("ifGot(2, {0, 1}, 0)", x.ifGot(2, k, 0), 0);
        due("ifGot(2, {0, 1}, 1)", x.ifGot(2, k, 1), 1);
    }

    @Holds(in = "Promise 19", words = "Throws `IndexOutOfBoundsException` if there is no such receiver")
    void promise19TheReceiverBelow0IsRefused() {
        refusedBelow(0, "ifGot(.., 0, 0)", INDEX, (x, r) -> x.ifGot(r, 0, 0));
    }

    @Holds(in = "Promise 19", words = "Throws `IndexOutOfBoundsException` if there is no such receiver")
    void promise19Receiver3IsRefused() {
        refusedAbove(2, "ifGot(.., 0, 1)", INDEX, (x, r) -> x.ifGot(r, 0, 1));
    }

    @Holds(in = "Promise 19", words = "`mix`: 0 to 9999")
    void promise19TheMixes0And9999() {
        MixedBlocks x = filled(8);
        due("ifGot(0, 0, 0)", x.ifGot(0, 0, 0), 1);
        due("ifGot(0, 0, 1)", x.ifGot(0, 0, 1), 1);
        due("ifGot(0, 9999, 0)", x.ifGot(0, 9999, 0), 0);
        due("ifGot(0, 9999, 1)", x.ifGot(0, 9999, 1), 1);
    }

    @Holds(in = "Promise 19", words = "Throws `IllegalArgumentException` if mix or what is out of range")
    void promise19TheMixBelow0IsRefused() {
        refusedBelow(0, "ifGot(0, .., 0)", ARGUMENT, (x, k) -> x.ifGot(0, k, 0));
    }

    @Holds(in = "Promise 19", words = "Throws `IllegalArgumentException` if mix or what is out of range")
    void promise19TheMix10000IsRefused() {
        refusedAbove(9999, "ifGot(0, .., 0)", ARGUMENT, (x, k) -> x.ifGot(0, k, 0));
    }

    @Holds(in = "Promise 19",
        words = {"`what`: 0: how many blocks would become known", "if mix or what is out of range"})
    void promise19WhatBelow0IsRefused() {
        refusedBelow(0, "ifGot(0, 0, ..)", ARGUMENT, (x, what) -> x.ifGot(0, 0, what));
    }

    @Holds(in = "Promise 19", words = {"1: its rank then", "if mix or what is out of range"})
    void promise19What2IsRefused() {
        refusedAbove(1, "ifGot(0, 0, ..)", ARGUMENT, (x, what) -> x.ifGot(0, 0, what));
    }

    @Holds(in = "Promise 19", words = "(also one that does not listen)")
    void promise19AlsoOneThatDoesNotListen() {
        MixedBlocks x = hearing(8);
        mixes(x, new int[][] {{0, 1}, {1, 2}});
        x.listen(0, false);
        due("ifGot(0, {1}, 0)", x.ifGot(0, numberOf(8, 1), 0), 3);
        due("ifGot(0, {1}, 1)", x.ifGot(0, numberOf(8, 1), 1), 3);
        due("ifGot(1, {1}, 0)", x.ifGot(1, numberOf(8, 1), 0), 1);
    }

    @Holds(in = "Promise 19", words = "0: how many blocks would become known")
    void promise19NoBlockAndAllBlocksWouldBecomeKnown() {
        MixedBlocks x = hearing(12);
        for (int b = 0; b < 11; b++) {
            mix(x, b, b + 1);
        }
        due("ifGot(0, {5}, 0)", x.ifGot(0, numberOf(12, 5), 0), 12);
        due("ifGot(0, {5, 6}, 0)", x.ifGot(0, numberOf(12, 5, 6), 0), 0);
        due("ifGot(0, {5, 6, 7}, 0), by elimination alone", x.ifGot(0, numberOf(12, 5, 6, 7), 0), 0);
        due("ifGot of who is done", done(12).ifGot(0, numberOf(12, 5), 0), 0);
    }

    @Holds(in = "Promise 19", words = "1: its rank then")
    void promise19TheRankOfAMixThatTellsNothing() {
        MixedBlocks x = hearing(8);
        mixes(x, new int[][] {{0, 1}, {1, 2}});
        due("ifGot(0, {0, 2}, 1)", x.ifGot(0, numberOf(8, 0, 2), 1), 2);
        due("ifGot(0, {0, 1, 2}, 1)", x.ifGot(0, numberOf(8, 0, 1, 2), 1), 3);
        due("ifGot of who is done", done(8).ifGot(0, numberOf(8, 0, 2), 1), 8);
    }

    /** What would be lost does not raise the rank; with one block left it needs no room. */
    @Holds(in = "Promise 19", words = "1: its rank then")
    void promise19TheRankOfAMixWithoutRoom() {
        MixedBlocks x = full(8);
        int two = numberOf(8, 3, 5);
        due("ifGot(0, {3, 5}, 0)", x.ifGot(0, two, 0), 0);
        due("ifGot(0, {3, 5}, 1)", x.ifGot(0, two, 1), 2);
        due("ifGot(0, {3}, 0)", x.ifGot(0, numberOf(8, 3), 0), 1);
        due("ifGot(0, {3}, 1)", x.ifGot(0, numberOf(8, 3), 1), 3);
        mix(x, 3);
        due("ifGot(0, {3, 5}, 0) with 3 known", x.ifGot(0, two, 0), 1);
        due("ifGot(0, {3, 5}, 1) with 3 known", x.ifGot(0, two, 1), 4);
    }

    @Holds(in = "Promise 19", words = "1: its rank then")
    void promise19TheRankOfThe24th() {
        MixedBlocks x = hearing(8);
        for (int i = 0; i < 23; i++) {
            mix(x, 0, 1);
        }
        due("ifGot(0, {3, 5}, 1) with 23", x.ifGot(0, numberOf(8, 3, 5), 1), 2);
        mix(x, 0, 1);
        due("ifGot(0, {3, 5}, 1) with 24", x.ifGot(0, numberOf(8, 3, 5), 1), 1);
    }

    @Holds(in = "Promise 19", words = "Tells what a mix would bring a receiver")
    void promise19ChangesNothing() {
        looks(Cases::busy, "ifGot(0, {0}, 0)", x -> x.ifGot(0, numberOf(8, 0), 0));
        looks(Cases::busy, "ifGot(0, {0}, 1)", x -> x.ifGot(0, numberOf(8, 0), 1));
        looks(Cases::busy, "ifGot(0, {3, 5}, 1)", x -> x.ifGot(0, numberOf(8, 3, 5), 1));
    }

    // ---- promise 20

    @Holds(in = "Promise 20", words = {"Finds the next mix that helps a receiver.", "`receiver`: 0 to 2"})
    void promise20Receivers0And2() {
        MixedBlocks x = hearing(8);
        mix(x, 0);
        due("helps(0, 38), {0, 1} with 0 known", x.helps(0, 38), 38);
        due("helps(2, 38), {0, 1} with none known", x.helps(2, 38), 61);
    }

    @Holds(in = "Promise 20", words = "Throws `IndexOutOfBoundsException` if there is no such receiver")
    void promise20TheReceiverBelow0IsRefused() {
        refusedBelow(0, "helps(.., 0)", INDEX, (x, r) -> x.helps(r, 0));
    }

    @Holds(in = "Promise 20", words = "Throws `IndexOutOfBoundsException` if there is no such receiver")
    void promise20Receiver3IsRefused() {
        refusedAbove(2, "helps(.., 0)", INDEX, (x, r) -> x.helps(r, 0));
    }

    @Holds(in = "Promise 20", words = "`from`: 0 to 9999")
    void promise20From0() {
        due("helps(0, 0)", filled(8).helps(0, 0), 0);
    }

    /** The mix 9999 of 8 blocks is {2, 3, 6}. */
    @Holds(in = "Promise 20", words = "`from`: 0 to 9999")
    void promise20From9999() {
        MixedBlocks x = hearing(8);
        due("helps(0, 9999) with none known", x.helps(0, 9999), NONE);
        mixes(x, new int[][] {{2}, {3}});
        due("helps(0, 9999) with 2 and 3 known", x.helps(0, 9999), 9999);
        mix(x, 6);
        due("helps(0, 9999) with all three known", x.helps(0, 9999), NONE);
    }

    @Holds(in = "Promise 20", words = "Throws `IllegalArgumentException` if from is out of range")
    void promise20FromBelow0IsRefused() {
        refusedBelow(0, "helps(0, ..)", ARGUMENT, (x, from) -> x.helps(0, from));
    }

    @Holds(in = "Promise 20", words = "Throws `IllegalArgumentException` if from is out of range")
    void promise20From10000IsRefused() {
        refusedAbove(9999, "helps(0, ..)", ARGUMENT, (x, from) -> x.helps(0, from));
    }

    @Holds(in = "Promise 20", words = "Returns the least mix, from this one")
    void promise20TheOneThatItBeginsWithIsLookedAt() {
        MixedBlocks x = filled(8);
        due("helps(0, 61)", x.helps(0, 61), 61);
        due("helps(0, 60)", x.helps(0, 60), 61);
        due("helps(0, 62)", x.helps(0, 62), 64);
    }

    /**
     * With 3, 5 and 7 of 9 blocks known there are places from which the next mix that helps is 69 behind. None is
     * farther, whatever a receiver knows of a file of 2 to 12 blocks: so no answer shows that the one 99 behind is the
     * last that is looked at.
     */
    @Holds(in = "Promise 20", words = "to the one 99 behind it")
    void promise20TheFarthestHelp() {
        MixedBlocks x = known357();
        int farthest = 0;
        int next = NONE;
        for (int from = 9999; from >= 0; from--) {
            // an object is used for at most 512 calls
            x = from % 400 == 0 ? known357() : x;
            next = Integer.bitCount(maskOf(9, from) & ~mask(3, 5, 7)) == 1 ? from : next;
            due("helps(0, " + from + ")", x.helps(0, from), next);
            farthest = Math.max(farthest, next - from);
        }
        due("the farthest", farthest, 69);
    }

    private static MixedBlocks known357() {
        MixedBlocks x = hearing(9);
        mixes(x, new int[][] {{3}, {5}, {7}});
        return x;
    }

    @Holds(in = "Promise 20", words = {"(but at most 9999)", "NONE if there is none"})
    void promise20NoneBehindTheLastThatHelps() {
        for (int n = 2; n <= 12; n++) {
            int last = 9999;
            while (Integer.bitCount(maskOf(n, last)) != 1) {
                last--;
            }
            MixedBlocks x = filled(n);
            due("helps of the last of " + n, x.helps(0, last), last);
            if (last < 9999) {
                due("helps behind the last of " + n, x.helps(0, last + 1), NONE);
                due("helps from 9999 on of " + n, x.helps(0, 9999), NONE);
            }
        }
    }

    @Holds(in = "Promise 20", words = "NONE if there is none")
    void promise20NoneHelpsWhoIsDone() {
        for (int n : new int[] {2, 8, 12}) {
            MixedBlocks x = done(n);
            due("helps(0, 0)", x.helps(0, 0), NONE);
            due("helps(0, 9900)", x.helps(0, 9900), NONE);
            due("helps(0, 9999)", x.helps(0, 9999), NONE);
        }
    }

    /** The mix 0 is {6}, the mix 1 is {7}, the mix 2 has all blocks. */
    @Holds(in = "Promise 20", words = "by which a block would become known")
    void promise20WhatIsKnownHelpsNoMore() {
        MixedBlocks x = hearing(8);
        x.send(0);
        due("helps(0, 0) with 6 known", x.helps(0, 0), 1);
        mixes(x, new int[][] {{0}, {1}, {2}, {3}, {4}, {7}});
        due("helps(0, 0) with all but 5 known", x.helps(0, 0), 2);
    }

    @Holds(in = "Promise 20", words = "by which a block would become known")
    void promise20WhoDoesNotListenIsHelpedToo() {
        MixedBlocks x = hearing(8);
        mix(x, 0);
        x.listen(0, false);
        due("helps(0, 38)", x.helps(0, 38), 38);
    }

    @Holds(in = "Promise 20", words = "Finds the next mix that helps a receiver.")
    void promise20ChangesNothing() {
        looks(Cases::busy, "helps(0, 0)", x -> x.helps(0, 0));
        looks(Cases::busy, "helps(2, 9999)", x -> x.helps(2, 9999));
    }

    // ---- promise 21

    @Holds(in = "Promise 21", words = {"Tells how many mixes a receiver would need.", "`receiver`: 0 to 2"})
    void promise21Receivers0And2() {
        MixedBlocks x = done(8);
        due("needs(0, 0, false)", x.needs(0, 0, false), 0);
        due("needs(2, 0, false)", x.needs(2, 0, false), 32);
        due("needs(2, 0, true)", x.needs(2, 0, true), 20);
    }

    @Holds(in = "Promise 21", words = "Throws `IndexOutOfBoundsException` if there is no such receiver")
    void promise21TheReceiverBelow0IsRefused() {
        refusedBelow(0, "needs(.., 0, false)", INDEX, (x, r) -> x.needs(r, 0, false));
    }

    @Holds(in = "Promise 21", words = "Throws `IndexOutOfBoundsException` if there is no such receiver")
    void promise21Receiver3IsRefused() {
        refusedAbove(2, "needs(.., 0, true)", INDEX, (x, r) -> x.needs(r, 0, true));
    }

    /** So many mixes receiver 0 gets until it is done, as they are sent; NONE if not by 100. */
    private static int asSent(MixedBlocks x, int from, boolean eliminates) {
        for (int sent = 0; sent <= 100; sent++) {
            if (x.receiver(0, DONE) == 1) {
                return sent;
            }
            x.send(from + sent);
            if (eliminates) {
                x.eliminate(0);
            }
        }
        return NONE;
    }

    @Holds(in = "Promise 21", words = "`from`: 0 to 9899: the first mix; the next ones come in order")
    void promise21From0() {
        due("needs(0, 0, false)", filled(8).needs(0, 0, false), asSent(hearing(8), 0, false));
        due("needs(0, 0, true)", filled(8).needs(0, 0, true), asSent(hearing(8), 0, true));
    }

    @Holds(in = "Promise 21", words = "`from`: 0 to 9899: the first mix; the next ones come in order")
    void promise21From9899() {
        due("needs(0, 9899, false)", filled(8).needs(0, 9899, false), asSent(hearing(8), 9899, false));
        due("needs(0, 9899, true)", filled(8).needs(0, 9899, true), asSent(hearing(8), 9899, true));
    }

    @Holds(in = "Promise 21", words = "Throws `IllegalArgumentException` if from is out of range")
    void promise21FromBelow0IsRefused() {
        refusedBelow(0, "needs(0, .., false)", ARGUMENT, (x, from) -> x.needs(0, from, false));
    }

    @Holds(in = "Promise 21", words = "Throws `IllegalArgumentException` if from is out of range")
    void promise21From9900IsRefused() {
        refusedAbove(9899, "needs(0, .., true)", ARGUMENT, (x, from) -> x.needs(0, from, true));
        refused(() -> done(8), "needs(0, 9900, false) of who is done", ARGUMENT, x -> x.needs(0, 9900, false));
    }

    @Holds(in = "Promise 21", words = "Returns how many mixes it would get until it is done, 0 to 100")
    void promise21WhoIsDoneNeeds0() {
        for (int n : new int[] {2, 12}) {
            due("needs(0, 0, false)", done(n).needs(0, 0, false), 0);
            due("needs(0, 9899, true)", done(n).needs(0, 9899, true), 0);
        }
    }

    @Holds(in = "Promise 21", words = "Returns how many mixes it would get until it is done")
    void promise21WhoLacksOneBlockNeeds1OrMore() {
        MixedBlocks x = hearing(8);
        mixes(x, new int[][] {{0}, {1}, {2}, {3}, {4}, {5}, {7}});
        // the mix 0 is {6}, the mix 1 is {7}, the mix 2 has all blocks
        due("needs(0, 0, false)", x.needs(0, 0, false), 1);
        due("needs(0, 1, false)", x.needs(0, 1, false), 2);
        due("needs(0, 1, true)", x.needs(0, 1, true), 2);
    }

    @Holds(in = "Promise 21", words = {"Returns how many mixes it would get until it is done, 0 to 100",
        "NONE if not by 100"})
    void promise21By99And100AndNotBy100() {
        MixedBlocks x = filled(9);
        due("needs(0, 448, false)", x.needs(0, 448, false), 99);
        due("needs(0, 447, false)", x.needs(0, 447, false), 100);
        due("needs(0, 446, false)", x.needs(0, 446, false), NONE);
        due("99 as sent", asSent(hearing(9), 448, false), 99);
        due("100 as sent", asSent(hearing(9), 447, false), 100);
        due("more than 100 as sent", asSent(hearing(9), 446, false), NONE);
    }

    @Holds(in = "Promise 21", words = "`eliminates`: whether it eliminates behind each of them")
    void promise21EliminatesNotAheadOfTheFirst() {
        MixedBlocks x = hearing(3);
        mixes(x, new int[][] {{0, 1}, {1, 2}, {0, 1, 2}});
        due("ifEliminated(0)", x.ifEliminated(0), 3);
        due("needs(0, {0, 1}, true)", x.needs(0, numberOf(3, 0, 1), true), 1);
    }

    @Holds(in = "Promise 21", words = "`eliminates`: whether it eliminates behind each of them")
    void promise21EliminatesBehindTheLast() {
        MixedBlocks x = hearing(3);
        mixes(x, new int[][] {{0, 1}, {1, 2}});
        int k = numberOf(3, 0, 1, 2);
        due("needs(0, {0, 1, 2}, true)", x.needs(0, k, true), 1);
        boolean more = x.needs(0, k, false) != 1;
        due("more without eliminating", more, true);
    }

    @Holds(in = "Promise 21", words = "Returns how many mixes it would get until it is done")
    void promise21WithoutRoomMixesAreLost() {
        int more = 0;
        for (int from = 0; from <= 9899; from += 99) {
            int needs = full(8).needs(0, from, false);
            due("needs(0, " + from + ", false)", needs, asSent(full(8), from, false));
            due("needs(0, " + from + ", true)", full(8).needs(0, from, true), asSent(full(8), from, true));
            more += needs > hearing(8).needs(0, from, false) ? 1 : 0;
        }
        due("it takes more because mixes are lost", more > 0, true);
    }

    @Holds(in = "Promise 21", words = "Tells how many mixes a receiver would need.")
    void promise21ChangesNothing() {
        looks(Cases::busy, "needs(0, 0, true)", x -> x.needs(0, 0, true));
        looks(Cases::busy, "needs(2, 9899, false)", x -> x.needs(2, 9899, false));
        looks(Cases::busy, "needs(0, 0, false)", x -> x.needs(0, 0, false));
    }

    // ---- promise 22

    @Holds(in = "Promise 22", words = {"Tells how many blocks elimination would find.", "`receiver`: 0 to 2"})
    void promise22Receivers0And2() {
        MixedBlocks x = filled(8);
        x.listen(2, true);
        mixes(x, new int[][] {{1, 2}, {1, 2, 3}, {3, 5}});
        due("ifEliminated(0)", x.ifEliminated(0), 0);
        due("ifEliminated(2)", x.ifEliminated(2), 2);
        x.listen(2, false);
        due("ifEliminated(2) of who does not listen", x.ifEliminated(2), 2);
    }

    @Holds(in = "Promise 22", words = "Throws `IndexOutOfBoundsException` if there is no such receiver")
    void promise22TheReceiverBelow0IsRefused() {
        refusedBelow(0, "ifEliminated", INDEX, (x, r) -> x.ifEliminated(r));
    }

    @Holds(in = "Promise 22", words = "Throws `IndexOutOfBoundsException` if there is no such receiver")
    void promise22Receiver3IsRefused() {
        refusedAbove(2, "ifEliminated", INDEX, (x, r) -> x.ifEliminated(r));
    }

    @Holds(in = "Promise 22", words = "Returns how many blocks would become known.")
    void promise22NothingWouldBecomeKnown() {
        due("ifEliminated(0) of nothing", new MixedBlocks().ifEliminated(0), 0);
        due("ifEliminated(0) of who is done", done(12).ifEliminated(0), 0);
        due("ifEliminated(0) of 24 alike", full(8).ifEliminated(0), 0);
    }

    @Holds(in = "Promise 22", words = "Returns how many blocks would become known.")
    void promise22AllBlocksWouldBecomeKnown() {
        MixedBlocks x = hearing(12);
        for (int b = 0; b < 11; b++) {
            mix(x, b, b + 1);
        }
        due("ifEliminated(0) with 11", x.ifEliminated(0), 0);
        mix(x, 0, 1, 2);
        due("ifEliminated(0) with 12", x.ifEliminated(0), 12);
        due("eliminate(0)", x.eliminate(0), 12);
        due("ifEliminated(0) behind it", x.ifEliminated(0), 0);
    }

    @Holds(in = "Promise 22", words = "Tells how many blocks elimination would find.")
    void promise22ChangesNothing() {
        looks(GuessTests::toldTogether, "ifEliminated(0)", x -> x.ifEliminated(0));
        looks(Cases::busy, "ifEliminated(0)", x -> x.ifEliminated(0));
    }

    private static MixedBlocks toldTogether() {
        MixedBlocks x = hearing(8);
        mixes(x, new int[][] {{1, 2}, {1, 2, 3}, {3, 5}});
        return x;
    }

    // ---- promise 23

    @Holds(in = "Promise 23", words = {"Returns how much of what a receiver got helped.", "`receiver`: 0 to 2"})
    void promise23Receivers0And2() {
        MixedBlocks x = filled(8);
        x.listen(2, true);
        mixes(x, new int[][] {{0}, {0}});
        due("use(0)", x.use(0), 1.0);
        due("use(2)", x.use(2), 0.5);
        x.listen(2, false);
        due("use(2) of who does not listen", x.use(2), 0.5);
    }

    @Holds(in = "Promise 23", words = "Throws `IndexOutOfBoundsException` if there is no such receiver")
    void promise23TheReceiverBelow0IsRefused() {
        refusedBelow(0, "use", INDEX, (x, r) -> x.use(r));
    }

    @Holds(in = "Promise 23", words = "Throws `IndexOutOfBoundsException` if there is no such receiver")
    void promise23Receiver3IsRefused() {
        refusedAbove(2, "use", INDEX, (x, r) -> x.use(r));
    }

    @Holds(in = "Promise 23", words = "1.0 without any")
    void promise23Is1WithoutAny() {
        MixedBlocks x = filled(8);
        mix(x, 0);
        due("use(0) of who does not listen", x.use(0), 1.0);
    }

    @Holds(in = "Promise 23", words = "1.0 without any")
    void promise23Is1AgainWhenTheOnlyOneIsUndone() {
        MixedBlocks x = hearing(8);
        mixes(x, new int[][] {{0}, {0}});
        x.undo();
        due("use(0) with one", x.use(0), 1.0);
        x.undo();
        due("use(0) with none", x.use(0), 1.0);
    }

    @Holds(in = "Promise 23",
        words = "the mixes that it got so far, but those that told nothing new, and those that were lost")
    void promise23WhatWaitsOrIsKnownHelped() {
        MixedBlocks x = full(8);
        due("use(0) with 24 that wait", x.use(0), 1.0);
        mix(x, 4);
        due("use(0) with one more that is known", x.use(0), 1.0);
    }

    @Holds(in = "Promise 23", words = {"but those that told nothing new", "as a double, divided by all that it got"})
    void promise23WithoutThoseThatToldNothing() {
        MixedBlocks x = hearing(8);
        mix(x, 0);
        for (int got = 2; got <= 150; got++) {
            mix(x, 0);
            due("use(0) with " + got, x.use(0), 1.0 / got);
        }
    }

    @Holds(in = "Promise 23", words = {"and those that were lost", "as a double, divided by all that it got"})
    void promise23WithoutThoseThatWereLost() {
        MixedBlocks x = full(8);
        mix(x, 3, 5);
        due("use(0) with one lost", x.use(0), 24.0 / 25.0);
        mixes(x, new int[][] {{3, 5}, {4}, {4}});
        due("use(0) with two lost and one that told nothing", x.use(0), 25.0 / 28.0);
    }

    @Holds(in = "Promise 23", words = "but those that told nothing new")
    void promise23WithoutThoseThatWaitedAndToldNothing() {
        MixedBlocks x = full(8);
        mix(x, 1);
        due("use(0)", x.use(0), 3.0 / 25.0);
        x.forget(0);
        due("use(0) when all is forgotten", x.use(0), 3.0 / 25.0);
    }

    @Holds(in = "Promise 23", words = "Returns how much of what a receiver got helped.")
    void promise23ChangesNothing() {
        looks(Cases::busy, "use(0)", x -> x.use(0));
    }

    // ---- promise 24

    private void digestIs(Maker state, String buffer) {
        due("digest() with the buffer " + buffer, state.made().digest(), digestOf(state.made(), buffer));
    }

    /** All its 87 values, written out as far as no other promise tells them. */
    @Holds(in = "Promise 24", words = {"The hash starts at 3253.", "the hash becomes 31 * hash + v", "The values are:",
        "Returns the hash."})
    void promise24OfANewObject() {
        MixedBlocks x = new MixedBlocks();
        long hash = 3253;
        long[] file = {8, 0, 0, 0, 0, 0, 0, 0, 0, 0, 0, 0, 0, 0};
        // 9 numbers, 8 blocks, ifGot twice, helps, needs twice, ifEliminated, the bits of 1.0
        long[] receiver = {0, 0, 0, 0, 0, 0, 0, 0, 0, -1, -1, -1, -1, -1, -1, -1, -1, x.ifGot(0, 100, 0),
            x.ifGot(0, 100, 1), 0, x.needs(0, 5, false), x.needs(0, 5, true), 0, 4607182418800017408L};
        hash = hashed(hash, file);
        for (int r = 0; r < 3; r++) {
            hash = hashed(hash, receiver);
        }
        due("digest()", x.digest(), hashed(hash, new long[] {0}));
    }

    private static long hashed(long start, long[] values) {
        long hash = start;
        for (long value : values) {
            hash = 31 * hash + value;
        }
        return hash;
    }

    @Holds(in = "Promise 24", words = "the length of the buffer and each of its character codes")
    void promise24OfTheEmptyAndTheFullBuffer() {
        StringBuilder text = new StringBuilder();
        for (int i = 0; i < 60; i++) {
            text.append((char) (33 + i * 93 / 59));
        }
        String all = text.toString();
        digestIs(() -> typed(""), "");
        digestIs(() -> typed("~"), "~");
        digestIs(() -> typed(all), all);
        digestIs(() -> cleared(all), "");
    }

    private static MixedBlocks cleared(String text) {
        MixedBlocks x = typed(text);
        x.clearBuffer();
        return x;
    }

    @Holds(in = "Promise 24", words = "all blocks of the file")
    void promise24OfFilesOf2And12Blocks() {
        digestIs(() -> filled(2), "");
        digestIs(() -> filled(12), "");
        digestIs(() -> done(2), "");
        digestIs(() -> done(12), "");
    }

    @Holds(in = "Promise 24", words = "for each mix that waits both its numbers")
    void promise24OfNoneAndOf24ThatWait() {
        digestIs(() -> hearing(8), "");
        digestIs(() -> full(8), "");
        digestIs(Cases::busy, "12-1,");
        digestIs(Cases::young, "");
    }

    @Holds(in = "Promise 24", words = "the bits of use (as Double.doubleToLongBits)")
    void promise24OfManyShares() {
        for (int more = 0; more <= 100; more++) {
            int told = more;
            digestIs(() -> toldAgain(told), "");
        }
    }

    /** 24 that wait, 1 that is known, and so many that told nothing. */
    private static MixedBlocks toldAgain(int times) {
        MixedBlocks x = full(8);
        for (int i = 0; i <= times; i++) {
            mix(x, 4);
        }
        return x;
    }

    @Holds(in = "Promise 24", words = {"needs from 5 without and with eliminating", "ifEliminated"})
    void promise24OfWhoIsToldByElimination() {
        digestIs(() -> hearing(9), "");
        digestIs(GuessTests::toldTogether, "");
        digestIs(GuessTests::eliminated, "");
    }

    private static MixedBlocks eliminated() {
        MixedBlocks x = toldTogether();
        x.eliminate(0);
        return x;
    }

    /** Of 8 blocks the mix 99 is {3, 4, 5}, the mix 100 is {0, 1, 5, 7}, and the mix 101 is {1, 2, 5, 7}. */
    @Holds(in = "Promise 24", words = "ifGot of the mix 100 with 0 and 1, helps from 0, needs from 5")
    void promise24OfWhoKnowsAllButOne() {
        for (int b = 0; b < 8; b++) {
            int lacks = b;
            digestIs(() -> allBut(lacks), "");
        }
    }

    private static MixedBlocks allBut(int lacks) {
        MixedBlocks x = hearing(8);
        for (int b = 0; b < 8; b++) {
            if (b != lacks) {
                mix(x, b);
            }
        }
        return x;
    }

    @Holds(in = "Promise 24", words = "in long arithmetic with overflow")
    void promise24GoesBeyondTheGreatestLong() {
        boolean below = false;
        boolean above = false;
        for (int k = 0; k < 30; k++) {
            int first = k;
            Maker state = () -> sentOne(first);
            long digest = state.made().digest();
            below |= digest < Integer.MIN_VALUE;
            above |= digest > Integer.MAX_VALUE;
            digestIs(state, "");
        }
        due("digests below 0", below, true);
        due("digests above 0", above, true);
    }

    private static MixedBlocks sentOne(int k) {
        MixedBlocks x = hearing(8);
        x.send(k);
        return x;
    }

    @Holds(in = "Promise 24", words = "Computes a hash of the whole state.")
    void promise24ChangesNothing() {
        looks(Cases::busy, "digest()", MixedBlocks::digest);
        looks(GuessTests::toldTogether, "digest()", MixedBlocks::digest);
    }
}
