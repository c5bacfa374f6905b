/** The document's section 'Receivers': a test for each sentence that names a boundary case. */
public final class ReceiversTests extends Cases {
    public static void main(String[] args) {
        new ReceiversTests().runAll();
    }

    @Holds(in = "Receivers", words = "There are 3 receivers, numbered from 0")
    void receiversAreNumbered0To2() {
        MixedBlocks x = allHearing(8);
        due("count(2)", x.count(LISTENING), 3);
        mix(x, 0);
        due("receiver(0, 1)", x.receiver(0, KNOWS), 1);
        due("receiver(1, 1)", x.receiver(1, KNOWS), 1);
        due("receiver(2, 1)", x.receiver(2, KNOWS), 1);
        refused(Cases::busy, "receiver(3, 1)", INDEX, y -> y.receiver(3, KNOWS));
        refused(Cases::busy, "receiver(-1, 1)", INDEX, y -> y.receiver(-1, KNOWS));
    }

    @Holds(in = "Receivers", words = "each listens or not, at first not")
    void receiversDoNotListenAtFirst() {
        MixedBlocks x = filled(8);
        mix(x, 0);
        for (int r = 0; r < 3; r++) {
            numbers(x, r, 0, 0, 0, 0, 0, 0, 0, 0, 0);
        }
    }

    // ---- room for 24

    @Holds(in = "Receivers", words = "keeps at most 24 mixes that wait")
    void roomForThe24th() {
        MixedBlocks x = hearing(8);
        for (int i = 1; i <= 24; i++) {
            mix(x, 3, 5);
            due("waits with " + i, x.receiver(0, WAITS), i);
            due("lost with " + i, x.receiver(0, LOST), 0);
        }
        due("the 24th", x.waiting(0, 23, 0), mask(3, 5));
    }

    @Holds(in = "Receivers", words = {"keeps at most 24 mixes that wait", "and is lost, if not"})
    void roomNotForThe25th() {
        MixedBlocks x = full(8);
        mix(x, 3, 5);
        numbers(x, 0, 1, 0, 0, 24, 25, 0, 1, 0, 2);
        due("the 24th", x.waiting(0, 23, 0), mask(1, 2));
        due("the 25th", x.waiting(0, 24, 0), NONE);
        mix(x, 4);
        mix(x, 3);
        due("what was lost tells nothing later", x.known(0, 5), NONE);
    }

    @Holds(in = "Receivers", words = "in the order in which they came")
    void roomIsInTheOrderInWhichTheyCame() {
        MixedBlocks x = hearing(12);
        for (int i = 0; i < 24; i++) {
            mix(x, i % 11, 11);
        }
        for (int i = 0; i < 24; i++) {
            due("waiting(0, " + i + ", 0)", x.waiting(0, i, 0), mask(i % 11, 11));
            due("waiting(0, " + i + ", 1)", x.waiting(0, i, 1), valueOfAll(i % 11, 11));
        }
    }

    @Holds(in = "Receivers", words = {"in the order in which they came", "is gone"})
    void roomThatIsGoneInTheMiddleIsClosed() {
        MixedBlocks x = hearing(8);
        mixes(x, new int[][] {{0, 1}, {2, 3}, {4, 5}, {2, 6}, {0, 7}, {2}});
        int[][] want = {{0, 1}, {4, 5}, {0, 7}};
        due("waits", x.receiver(0, WAITS), 3);
        for (int i = 0; i < 3; i++) {
            due("waiting(0, " + i + ", 0)", x.waiting(0, i, 0), mask(want[i]));
        }
        due("waiting(0, 3, 0)", x.waiting(0, 3, 0), NONE);
        mix(x, 1, 5);
        due("the next one waits last", x.waiting(0, 3, 0), mask(1, 5));
    }

    @Holds(in = "Receivers", words = "the mix waits, if there is room")
    void roomIsThereAgainWhenOneIsGone() {
        MixedBlocks x = hearing(8);
        mix(x, 3, 5);
        for (int i = 0; i < 23; i++) {
            mix(x, 0, 1);
        }
        mix(x, 3);
        due("waits when one is gone", x.receiver(0, WAITS), 23);
        mix(x, 1, 2);
        due("waits with one more", x.receiver(0, WAITS), 24);
        due("lost with one more", x.receiver(0, LOST), 0);
        mix(x, 1, 2);
        due("lost with two more", x.receiver(0, LOST), 1);
    }

    @Holds(in = "Receivers", words = "if one block is left, this block is known")
    void roomIsNotNeededForOneBlockLeft() {
        MixedBlocks x = full(8);
        due("send({3})", mix(x, 3), 1);
        due("send({3, 5}), 5 is left", mix(x, 3, 5), 1);
        due("waits", x.receiver(0, WAITS), 24);
        due("lost", x.receiver(0, LOST), 0);
    }

    @Holds(in = "Receivers", words = "If no block is left, the mix told nothing new, and is gone.")
    void roomIsNotNeededForNoBlockLeft() {
        MixedBlocks x = full(8);
        mixes(x, new int[][] {{3}, {3}});
        numbers(x, 0, 1, 1, mask(3), 24, 26, 1, 0, 0, 3);
    }

    @Holds(in = "Receivers", words = "otherwise the mix waits, if there is room, and is lost, if not")
    void roomIsNeededForTwoBlocksLeft() {
        MixedBlocks x = full(8);
        mixes(x, new int[][] {{3}, {3, 5, 6}});
        numbers(x, 0, 1, 1, mask(3), 24, 26, 0, 1, 0, 3);
    }

    // ---- how many blocks are left

    @Holds(in = "Receivers",
        words = "blocks that it knows are taken out of the mix (its value is put together with them")
    void leftIsWhatIsNotKnown() {
        MixedBlocks x = hearing(8);
        mixes(x, new int[][] {{0}, {2}, {0, 1, 2, 3}});
        due("blocks left", x.waiting(0, 0, 0), mask(1, 3));
        due("value left", x.waiting(0, 0, 1), valueOfAll(1, 3));
    }

    @Holds(in = "Receivers", words = "If no block is left, the mix told nothing new, and is gone.")
    void leftIsNoBlock() {
        MixedBlocks x = hearing(8);
        mixes(x, new int[][] {{0}, {1}});
        due("send({0, 1})", mix(x, 0, 1), 0);
        numbers(x, 0, 1, 2, mask(0, 1), 0, 3, 1, 0, 0, 2);
    }

    @Holds(in = "Receivers", words = "if one block is left, this block is known with the value that is left")
    void leftIsOneBlock() {
        MixedBlocks x = hearing(8);
        mixes(x, new int[][] {{0}, {1}});
        due("send({0, 1, 2})", mix(x, 0, 1, 2), 1);
        due("known(0, 2)", x.known(0, 2), valueOf(2));
        numbers(x, 0, 1, 3, mask(0, 1, 2), 0, 3, 0, 0, 0, 3);
    }

    @Holds(in = "Receivers", words = "otherwise the mix waits, if there is room")
    void leftAreTwoBlocks() {
        MixedBlocks x = hearing(8);
        mix(x, 0);
        due("send({0, 1, 2})", mix(x, 0, 1, 2), 0);
        numbers(x, 0, 1, 1, mask(0), 1, 2, 0, 0, 0, 2);
    }

    @Holds(in = "Receivers", words = "if one block is left, this block is known with the value that is left")
    void leftIsTheLastBlockOfAll() {
        MixedBlocks x = hearing(12);
        for (int b = 0; b < 11; b++) {
            mix(x, b);
        }
        int all = 0;
        while (maskOf(12, all) != 4095) {
            all++;
        }
        due("send(all)", x.send(all), 1);
        due("known(0, 11)", x.known(0, 11), valueOf(11));
    }

    // ---- peeling

    @Holds(in = "Receivers", words = "When a block becomes known, it is taken out of all mixes that wait.")
    void peelingTakesOutOfTheFirstAndTheLastOf24() {
        MixedBlocks x = hearing(8);
        mix(x, 0, 3, 4);
        for (int i = 0; i < 22; i++) {
            mix(x, 3, 4);
        }
        mix(x, 0, 3, 5);
        mix(x, 0);
        due("waits", x.receiver(0, WAITS), 24);
        due("blocks left of the first", x.waiting(0, 0, 0), mask(3, 4));
        due("value left of the first", x.waiting(0, 0, 1), valueOfAll(3, 4));
        due("blocks left of the last", x.waiting(0, 23, 0), mask(3, 5));
        due("value left of the last", x.waiting(0, 23, 1), valueOfAll(3, 5));
    }

    @Holds(in = "Receivers", words = "As long as a waiting mix has less than two blocks left")
    void peelingLeavesWhoHasTwo() {
        MixedBlocks x = hearing(8);
        mixes(x, new int[][] {{0, 1, 2}, {0}});
        numbers(x, 0, 1, 1, mask(0), 1, 2, 0, 0, 0, 2);
    }

    @Holds(in = "Receivers",
        words = "with one block left it makes this one known (which is taken out of all others, too)")
    void peelingGoesOnFromFirstToLast() {
        MixedBlocks x = hearing(12);
        for (int b = 0; b < 11; b++) {
            mix(x, b, b + 1);
        }
        due("send({0})", mix(x, 0), 12);
        numbers(x, 0, 1, 12, 4095, 0, 12, 0, 0, 1, 12);
        for (int b = 0; b < 12; b++) {
            due("known(0, " + b + ")", x.known(0, b), valueOf(b));
        }
    }

    @Holds(in = "Receivers", words = "As long as a waiting mix has less than two blocks left")
    void peelingGoesOnFromLastToFirst() {
        MixedBlocks x = hearing(12);
        for (int b = 10; b >= 0; b--) {
            mix(x, b, b + 1);
        }
        due("send({0})", mix(x, 0), 12);
        numbers(x, 0, 1, 12, 4095, 0, 12, 0, 0, 1, 12);
    }

    @Holds(in = "Receivers", words = "with none it told nothing new")
    void peelingOfTheSameMixesTellsNothingNew() {
        MixedBlocks x = hearing(8);
        mixes(x, new int[][] {{0, 1}, {0, 1}, {0, 1}});
        due("send({0})", mix(x, 0), 2);
        numbers(x, 0, 1, 2, mask(0, 1), 0, 4, 2, 0, 0, 2);
    }

    @Holds(in = "Receivers", words = "As long as a waiting mix has less than two blocks left")
    void peelingOfTheFirstAndOfThe24thAlone() {
        MixedBlocks x = hearing(8);
        mix(x, 3, 4);
        for (int i = 0; i < 22; i++) {
            mix(x, 0, 1);
        }
        mix(x, 5, 6);
        due("send({5}), 6 by the 24th", mix(x, 5), 2);
        due("waits", x.receiver(0, WAITS), 23);
        due("send({3}), 4 by the first", mix(x, 3), 2);
        due("waits without both", x.receiver(0, WAITS), 22);
        due("lost", x.receiver(0, LOST), 0);
    }

    @Holds(in = "Receivers", words = "with none it told nothing new")
    void peelingOf24LeavesNone() {
        MixedBlocks x = full(8);
        due("send({1})", mix(x, 1), 3);
        numbers(x, 0, 1, 3, mask(0, 1, 2), 0, 25, 22, 0, 0, 3);
    }

    // ---- elimination

    @Holds(in = "Receivers", words = "To eliminate is to find what waiting mixes tell together")
    void eliminationOfOneMixTellsNothing() {
        MixedBlocks x = hearing(8);
        mix(x, 0, 1);
        due("eliminate(0)", x.eliminate(0), 0);
        numbers(x, 0, 1, 0, 0, 1, 1, 0, 0, 0, 1);
    }

    @Holds(in = "Receivers", words = "each set of them, put together by XOR")
    void eliminationOfASetOfTwo() {
        MixedBlocks x = hearing(8);
        mixes(x, new int[][] {{0, 1}, {0, 1, 2}});
        due("eliminate(0)", x.eliminate(0), 1);
        due("known(0, 2)", x.known(0, 2), valueOf(2));
        numbers(x, 0, 1, 1, mask(2), 2, 2, 0, 0, 0, 2);
    }

    @Holds(in = "Receivers", words = "tells what the XOR of the blocks is that are left in an odd number of them")
    void eliminationOfASetOfThree() {
        MixedBlocks x = hearing(8);
        mixes(x, new int[][] {{0, 1}, {1, 2}, {0, 2, 7}});
        due("eliminate(0)", x.eliminate(0), 1);
        due("known(0, 7)", x.known(0, 7), valueOf(7));
        numbers(x, 0, 1, 1, mask(7), 3, 3, 0, 0, 0, 3);
    }

    /** {0, 1}, {1, 2}, .. {9, 10} and {0, 10, 11} tell 11 only all together. */
    @Holds(in = "Receivers", words = "each set of them, put together by XOR")
    void eliminationOfASetOfAllThatWait() {
        MixedBlocks x = hearing(12);
        for (int b = 0; b < 10; b++) {
            mix(x, b, b + 1);
        }
        due("eliminate(0) of ten", x.eliminate(0), 0);
        mix(x, 0, 10, 11);
        due("eliminate(0)", x.eliminate(0), 1);
        due("known(0, 11)", x.known(0, 11), valueOf(11));
        due("waits", x.receiver(0, WAITS), 11);
    }

    @Holds(in = "Receivers", words = "each set of them, put together by XOR")
    void eliminationWithThe24th() {
        MixedBlocks x = hearing(8);
        for (int i = 0; i < 23; i++) {
            mix(x, 0, 1);
        }
        mix(x, 0, 1, 2);
        due("eliminate(0)", x.eliminate(0), 1);
        due("known(0, 2)", x.known(0, 2), valueOf(2));
    }

    @Holds(in = "Receivers", words = "each block that some set tells alone is known then")
    void eliminationLeavesWhatNoSetTellsAlone() {
        MixedBlocks x = hearing(8);
        mixes(x, new int[][] {{0, 1}, {1, 2}, {0, 2}, {3, 4}});
        due("eliminate(0)", x.eliminate(0), 0);
        numbers(x, 0, 1, 0, 0, 4, 4, 0, 0, 0, 3);
    }

    /** {0, 1} and {0, 1, 3} tell 3, {0, 1} and {0, 1, 7} tell 7; 0 and 1 are not told. */
    @Holds(in = "Receivers", words = "each block that some set tells alone is known then")
    void eliminationFindsEachBlockThatIsToldAlone() {
        MixedBlocks x = hearing(8);
        mixes(x, new int[][] {{0, 1, 3}, {0, 1, 7}, {0, 1}});
        due("eliminate(0)", x.eliminate(0), 2);
        numbers(x, 0, 1, 2, mask(3, 7), 3, 3, 0, 0, 0, 3);
        due("known(0, 3)", x.known(0, 3), valueOf(3));
        due("known(0, 7)", x.known(0, 7), valueOf(7));
    }

    /**
     * All four blocks are told alone. From the lowest one on, 0 makes {0, 1} and {0, 2} tell 1 and 2, {0, 1, 2} nothing
     * and {0, 1, 2, 3} 3; from the highest one on, 3 would be told by a set, and one more mix would tell nothing.
     */
    @Holds(in = "Receivers", words = "from the lowest one on")
    void eliminationBeginsWithTheLowestBlock() {
        MixedBlocks x = hearing(8);
        mixes(x, new int[][] {{0, 1}, {0, 2}, {0, 1, 2}, {0, 1, 2, 3}});
        due("eliminate(0)", x.eliminate(0), 4);
        numbers(x, 0, 1, 4, mask(0, 1, 2, 3), 0, 4, 1, 0, 0, 4);
        due("use(0)", x.use(0), 0.75);
    }

    /** 3 is told by a set, and 5 then by {3, 5}, ahead of the set that tells 5, too. */
    @Holds(in = "Receivers", words = "(and each is taken out of mixes that wait, as above, at once)")
    void eliminationPeelsAtOnce() {
        MixedBlocks x = hearing(8);
        mixes(x, new int[][] {{1, 2}, {1, 2, 3}, {3, 5}});
        due("eliminate(0)", x.eliminate(0), 2);
        numbers(x, 0, 1, 2, mask(3, 5), 2, 3, 0, 0, 0, 3);
        due("blocks left", x.waiting(0, 1, 0), mask(1, 2));
        due("value left", x.waiting(0, 1, 1), valueOfAll(1, 2));
    }

    // ---- done, rank

    @Holds(in = "Receivers", words = "A receiver is done if it knows all blocks.")
    void doneIsWhoKnowsTheLastBlockToo() {
        for (int n : new int[] {2, 8, 12}) {
            MixedBlocks x = hearing(n);
            for (int b = n - 1; b > 0; b--) {
                mix(x, b);
            }
            due("done with all but one of " + n, x.receiver(0, DONE), 0);
            mix(x, 0);
            due("done with all " + n, x.receiver(0, DONE), 1);
        }
    }

    @Holds(in = "Receivers", words = "A receiver is done if it knows all blocks.")
    void doneIsNotWhoCouldEliminate() {
        MixedBlocks x = hearing(2);
        mixes(x, new int[][] {{0, 1}, {0, 1}});
        due("done with two that wait", x.receiver(0, DONE), 0);
        MixedBlocks y = hearing(3);
        mixes(y, new int[][] {{0, 1}, {1, 2}, {0, 1, 2}});
        due("rank", y.receiver(0, RANK), 3);
        due("done with a rank of 3", y.receiver(0, DONE), 0);
    }

    @Holds(in = "Receivers", words = "The rank of a receiver is how many blocks it knows, and the greatest number")
    void rankIs0WithoutAny() {
        due("rank", hearing(8).receiver(0, RANK), 0);
    }

    @Holds(in = "Receivers", words = "The rank of a receiver is how many blocks it knows, and the greatest number")
    void rankIsAllBlocksOfWhoIsDone() {
        due("rank of 2", done(2).receiver(0, RANK), 2);
        due("rank of 12", done(12).receiver(0, RANK), 12);
    }

    @Holds(in = "Receivers", words = "of which none is several others put together by XOR")
    void rankOfTheSameMixTwiceIs1() {
        MixedBlocks x = hearing(8);
        mix(x, 0, 1);
        due("rank of one", x.receiver(0, RANK), 1);
        mix(x, 0, 1);
        due("rank of it twice", x.receiver(0, RANK), 1);
    }

    @Holds(in = "Receivers", words = "of which none is several others put together by XOR")
    void rankOfThreeThatAreTwoTogetherIs2() {
        MixedBlocks x = hearing(8);
        mixes(x, new int[][] {{0, 1}, {1, 2}, {0, 2}});
        due("rank", x.receiver(0, RANK), 2);
        mix(x, 0, 1, 2);
        due("rank with {0, 1, 2}", x.receiver(0, RANK), 3);
    }

    @Holds(in = "Receivers", words = "the greatest number of its waiting mixes of which none is several others")
    void rankOfWaitingMixesAlone() {
        MixedBlocks x = hearing(12);
        for (int b = 0; b < 11; b++) {
            mix(x, b, b + 1);
            due("rank of " + (b + 1), x.receiver(0, RANK), b + 1);
        }
        mix(x, 0, 11);
        due("rank with {0, 11}", x.receiver(0, RANK), 11);
        mix(x, 0, 1, 2);
        due("rank with {0, 1, 2}", x.receiver(0, RANK), 12);
        due("knows", x.receiver(0, KNOWS), 0);
    }

    @Holds(in = "Receivers", words = "(by their sets of blocks left)")
    void rankIsOfTheBlocksLeft() {
        MixedBlocks x = hearing(8);
        mixes(x, new int[][] {{0, 1, 2}, {1, 2, 3}});
        due("rank", x.receiver(0, RANK), 2);
        mix(x, 0);
        due("rank with 0 known", x.receiver(0, RANK), 3);
        mix(x, 3);
        due("rank with {1, 2} left of both", x.receiver(0, RANK), 3);
    }
}
