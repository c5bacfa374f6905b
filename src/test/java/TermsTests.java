/** The document's sections under 'Terms': a test for each sentence that names a boundary case. */
public final class TermsTests extends Cases {
    public static void main(String[] args) {
        new TermsTests().runAll();
    }

    // ---- the file

    @Holds(in = "What it is", words = "An object is used for at most 512 calls after it has been made")
    void lifeThe512thCallIsStillAnswered() {
        MixedBlocks x = new MixedBlocks();
        Model m = new Model();
        for (int i = 0; i < 3; i++) {
            x.listen(i, true);
            m.listen(i, true);
        }
        for (int i = 3; i < 511; i++) {
            due("call " + (i + 1), x.send(i * 19), m.send(i * 19));
        }
        due("call 512, digest()", x.digest(), m.digest());
    }

    @Holds(in = "Terms", words = "All numbers are integers, but for a share")
    void termsAShareIsNotRounded() {
        MixedBlocks x = hearing(8);
        mixes(x, new int[][] {{0}, {1}, {1}});
        due("use(0)", x.use(0), 2.0 / 3.0);
    }

    @Holds(in = "Terms", words = "at first 8, numbered from 0")
    void termsTheFileHas8BlocksAtFirst() {
        MixedBlocks x = new MixedBlocks();
        due("count(0)", x.count(BLOCKS), 8);
        due("block(7)", x.block(7), 0);
        refused(MixedBlocks::new, "block(8)", INDEX, y -> y.block(8));
        refused(MixedBlocks::new, "block(-1)", INDEX, y -> y.block(-1));
    }

    @Holds(in = "Terms", words = "The file has 2 to 12 blocks")
    void termsAFileOf2HasTheBlocks0And1() {
        MixedBlocks x = filled(2);
        due("count(0)", x.count(BLOCKS), 2);
        due("block(1)", x.block(1), valueOf(1));
        refused(() -> filled(2), "block(2)", INDEX, y -> y.block(2));
    }

    @Holds(in = "Terms", words = "The file has 2 to 12 blocks")
    void termsAFileOf12HasTheBlocks0To11() {
        MixedBlocks x = filled(12);
        due("count(0)", x.count(BLOCKS), 12);
        due("block(11)", x.block(11), valueOf(11));
        refused(() -> filled(12), "block(12)", INDEX, y -> y.block(12));
    }

    @Holds(in = "Terms", words = "a block is a number, 0 to 65535, at first 0")
    void termsEachBlockIs0AtFirst() {
        MixedBlocks x = new MixedBlocks();
        for (int b = 0; b < 8; b++) {
            due("block(" + b + ")", x.block(b), 0);
        }
    }

    @Holds(in = "Terms", words = "a block is a number, 0 to 65535, at first 0")
    void termsABlockOf65535IsKeptWhole() {
        MixedBlocks x = new MixedBlocks();
        x.write(3, 65535);
        x.listen(1, true);
        mixes(x, new int[][] {{3, 4}, {3}});
        due("block(3)", x.block(3), 65535);
        due("known(1, 3)", x.known(1, 3), 65535);
        due("known(1, 4)", x.known(1, 4), 0);
    }

    // ---- mixes

    /** The row of the mix 0 is 17, 2918: place 1, so 1 block, 2918 % 8. */
    @Holds(in = "Terms", words = "A mix is told by its number k, 0 to 9999.")
    void termsTheMix0() {
        due("mix(0, 1)", new MixedBlocks().mix(0, 1), mask(6));
    }

    /** The row of the mix 9999 is 28663, 28075, 18334, 17418: place 7, so 3 blocks: 28075 % 8, 18334 % 8, 17418 % 8. */
    @Holds(in = "Terms", words = "A mix is told by its number k, 0 to 9999.")
    void termsTheMix9999() {
        due("mix(9999, 1)", new MixedBlocks().mix(9999, 1), mask(3, 6, 2));
    }

    /** The row of the mix 9896 is 0, 11: place 0, so 1 block, 11 % 8. */
    @Holds(in = "Terms", words = "Its row of numbers begins with (k * 7919 + 17) % 30269")
    void termsARowBeginsWith0AtLeast() {
        due("mix(9896, 1)", new MixedBlocks().mix(9896, 1), mask(3));
    }

    /**
     * The row of the mix 3356 is 30268, 30109, 2920, 15027, 27032, 21595: place 12, so 5 blocks: 30109 % 8, 2920 % 8,
     * 15027 % 8, then 27032 % 8, which is in the mix already, so 1; and 21595 % 8, which is, too, so 4.
     */
    @Holds(in = "Terms", words = {"Its row of numbers begins with (k * 7919 + 17) % 30269",
        "each next one is the one ahead of it, times 171, and 11 more, modulo 30269"})
    void termsARowBeginsWith30268AtMost() {
        due("mix(3356, 1)", new MixedBlocks().mix(3356, 1), mask(5, 0, 3, 1, 4));
    }

    @Holds(in = "Terms", words = {"is a place of the table of degrees", "for the places 0 to 15"})
    void termsEachPlaceOfTheTable() {
        int[] degrees = {1, 1, 2, 2, 2, 2, 2, 3, 3, 3, 4, 4, 5, 6, 8, 12};
        MixedBlocks x = filled(12);
        for (int place = 0; place < degrees.length; place++) {
            int k = mixOfPlace(place);
            due("mix(" + k + ", 0) of the place " + place, x.mix(k, 0), degrees[place]);
        }
    }

    private static int mixOfPlace(int place) {
        int k = 0;
        while ((k * 7919 + 17) % 30269 % 16 != place) {
            k++;
        }
        return k;
    }

    @Holds(in = "Terms", words = "so many blocks the mix has, but at most as many as the file")
    void termsADegreeOf12InEachFile() {
        for (int n = 2; n <= 12; n++) {
            MixedBlocks x = filled(n);
            due("blocks of 12 in a file of " + n, x.mix(mixOfPlace(15), 0), n);
            due("they are all", x.mix(mixOfPlace(15), 1), (1 << n) - 1);
        }
    }

    @Holds(in = "Terms", words = "so many blocks the mix has, but at most as many as the file")
    void termsADegreeOf8InFilesOf7And8And9() {
        due("in a file of 7", filled(7).mix(mixOfPlace(14), 0), 7);
        due("in a file of 8", filled(8).mix(mixOfPlace(14), 0), 8);
        due("in a file of 9", filled(9).mix(mixOfPlace(14), 0), 8);
    }

    @Holds(in = "Terms", words = "so many blocks the mix has, but at most as many as the file")
    void termsDegreesOf2And3InAFileOf2() {
        MixedBlocks x = filled(2);
        due("a degree of 1", x.mix(mixOfPlace(1), 0), 1);
        due("a degree of 2", x.mix(mixOfPlace(2), 0), 2);
        due("a degree of 3", x.mix(mixOfPlace(7), 0), 2);
    }

    /** The mix 49 of 8 blocks draws 3, 3; the mix 711 draws 1, 2, 1. */
    @Holds(in = "Terms", words = "if that block is not in the mix yet; otherwise the first one behind it that is not")
    void termsTheFirstBlockBehindIsTaken() {
        MixedBlocks x = new MixedBlocks();
        due("mix(49, 1)", x.mix(49, 1), mask(3, 4));
        due("mix(711, 1)", x.mix(711, 1), mask(1, 2, 3));
    }

    /** The mix 932 of 8 blocks draws 7, 7; the mix 33 draws 7, 0, 7; of 12 blocks the mix 488 draws 11, 11. */
    @Holds(in = "Terms", words = "(behind the last one comes the block 0)")
    void termsBehindTheLastBlockComesTheBlock0() {
        MixedBlocks x = new MixedBlocks();
        due("mix(932, 1)", x.mix(932, 1), mask(7, 0));
        due("mix(33, 1)", x.mix(33, 1), mask(7, 0, 1));
        x.size(12);
        due("mix(488, 1) of 12", x.mix(488, 1), mask(11, 0));
    }

    @Holds(in = "Terms", words = "Its blocks are chosen one after the other")
    void termsEachMixOfEachFile() {
        for (int n = 2; n <= 12; n++) {
            MixedBlocks x = filled(n);
            int wrong = 0;
            for (int k = 0; k <= 9999; k++) {
                // an object is used for at most 512 calls
                x = k % 400 == 0 ? filled(n) : x;
                wrong += x.mix(k, 1) == maskOf(n, k) ? 0 : 1;
            }
            due("mixes of " + n + " blocks with other ones", wrong, 0);
        }
    }

    @Holds(in = "Terms", words = "The value of a mix is all its blocks, put together by XOR.")
    void termsTheValueOfOneBlockIsTheBlock() {
        MixedBlocks x = filled(12);
        for (int b = 0; b < 12; b++) {
            due("value of the block " + b, x.mix(numberOf(12, b), 2), valueOf(b));
        }
    }

    @Holds(in = "Terms", words = "The value of a mix is all its blocks, put together by XOR.")
    void termsTheValueOf65535TwelveTimesAndElevenTimes() {
        MixedBlocks x = new MixedBlocks();
        x.size(12);
        for (int b = 0; b < 12; b++) {
            x.write(b, 65535);
        }
        due("of 12", x.mix(mixOfPlace(15), 2), 0);
        x.write(4, 0);
        due("of 11", x.mix(mixOfPlace(15), 2), 65535);
    }

    // ---- changing the file

    private static MixedBlocks heard() {
        MixedBlocks x = allHearing(8);
        mixes(x, new int[][] {{0}, {1, 2}, {1, 2, 3}});
        x.listen(2, false);
        return x;
    }

    private void allForgot(MixedBlocks x) {
        for (int r = 0; r < 3; r++) {
            numbers(x, r, r == 2 ? 0 : 1, 0, 0, 0, 3, 0, 0, 0, 0);
            due("known(" + r + ", 0)", x.known(r, 0), NONE);
            due("waiting(" + r + ", 0, 0)", x.waiting(r, 0, 0), NONE);
        }
    }

    @Holds(in = "Changing the file", words = {"When a block is changed",
        "all receivers forget all blocks and waiting mixes, and go on to listen or not"})
    void changingABlockMakesAllForget() {
        MixedBlocks x = heard();
        x.write(7, 1);
        allForgot(x);
    }

    @Holds(in = "Changing the file", words = "(also to what it was)")
    void changingABlockToWhatItWasMakesAllForget() {
        MixedBlocks x = heard();
        x.write(7, valueOf(7));
        allForgot(x);
    }

    @Holds(in = "Changing the file", words = {"or the number of blocks",
        "all receivers forget all blocks and waiting mixes, and go on to listen or not"})
    void changingTheNumberOfBlocksMakesAllForget() {
        MixedBlocks x = heard();
        x.size(9);
        allForgot(x);
        MixedBlocks y = heard();
        y.size(7);
        allForgot(y);
    }

    @Holds(in = "Changing the file", words = "or the number of blocks (also to what it was)")
    void changingTheNumberOfBlocksToWhatItWasMakesAllForget() {
        MixedBlocks x = heard();
        x.size(8);
        allForgot(x);
    }

    @Holds(in = "Changing the file", words = "all receivers forget all blocks and waiting mixes")
    void changingMakesRoomAgain() {
        MixedBlocks x = full(8);
        mix(x, 3, 5);
        due("lost", x.receiver(0, LOST), 1);
        x.write(0, 1);
        mix(x, 3, 5);
        due("lost behind write", x.receiver(0, LOST), 1);
        due("waits behind write", x.receiver(0, WAITS), 1);
        due("what waits", x.waiting(0, 0, 0), mask(3, 5));
    }

    // ---- input text

    @Holds(in = "Input text", words = "The buffer has at most 60 characters.")
    void textOf60Characters() {
        MixedBlocks x = typed("1,".repeat(29) + "1");
        due("append of the 60th", x.append('2'), 60);
        refused(() -> typed("7".repeat(60)), "append of the 61st", STATE, y -> y.append('7'));
    }

    @Holds(in = "Input text", words = "Mixes as a text are one or more parts")
    void textOfNoPartIsNoText() {
        refused(() -> hearing(8), "sendAll() of nothing", ARGUMENT, MixedBlocks::sendAll);
    }

    @Holds(in = "Input text", words = "Mixes as a text are one or more parts")
    void textOfOnePart() {
        due("firstError()", typed("7").firstError(), 1);
        due("sendAll()", typed("7").sendAll(), 1);
    }

    @Holds(in = "Input text", words = "Mixes as a text are one or more parts with \",\" between them")
    void textOf30Parts() {
        String text = "7,".repeat(29) + "17";
        due("length", text.length(), 60);
        due("firstError()", typed(text).firstError(), 60);
        due("sendAll()", typed(text).sendAll(), 30);
    }

    @Holds(in = "Input text", words = "with \",\" between them")
    void textWithACommaAheadIsAnError() {
        due("firstError() of ,5", typed(",5").firstError(), 0);
    }

    @Holds(in = "Input text", words = "with \",\" between them")
    void textWithACommaBehindIsNotComplete() {
        due("firstError() of 5,", typed("5,").firstError(), 2);
        refused(() -> typed("5,"), "sendAll() of 5,", ARGUMENT, MixedBlocks::sendAll);
    }

    @Holds(in = "Input text", words = "with \",\" between them")
    void textWithTwoCommasIsAnError() {
        due("firstError() of 5,,6", typed("5,,6").firstError(), 2);
    }

    @Holds(in = "Input text", words = "each a number, 0 to 9999")
    void textWithANumberOf0And9999() {
        due("firstError() of 0,9999", typed("0,9999").firstError(), 6);
        due("sendAll() of 0,9999", typed("0,9999").sendAll(), 2);
    }

    @Holds(in = "Input text", words = "each a number, 0 to 9999")
    void textWithANumberOf10000IsAnError() {
        due("firstError() of 10000", typed("10000").firstError(), 4);
        due("firstError() of 99990", typed("99990").firstError(), 4);
        due("firstError() of -1", typed("-1").firstError(), 0);
    }

    @Holds(in = "Input text", words = "without a leading zero")
    void textWithALeadingZeroIsAnError() {
        due("firstError() of 00", typed("00").firstError(), 1);
        due("firstError() of 07", typed("07").firstError(), 1);
        due("firstError() of 1,07", typed("1,07").firstError(), 3);
        due("firstError() of 10,100,1000", typed("10,100,1000").firstError(), 11);
    }

    @Holds(in = "Input text", words = "and perhaps \"-\" and a number of 0 to 9999 likewise")
    void textWithASecondNumberOf0And9999() {
        due("firstError() of 0-0", typed("0-0").firstError(), 3);
        due("sendAll() of 0-0", typed("0-0").sendAll(), 1);
        due("firstError() of 9990-9999", typed("9990-9999").firstError(), 9);
        due("sendAll() of 9990-9999", typed("9990-9999").sendAll(), 10);
    }

    @Holds(in = "Input text", words = "and perhaps \"-\" and a number of 0 to 9999 likewise")
    void textWithASecondNumberOf10000IsAnError() {
        due("firstError() of 1-10000", typed("1-10000").firstError(), 6);
        due("firstError() of 9999-10000", typed("9999-10000").firstError(), 5);
    }

    @Holds(in = "Input text", words = "a number of 0 to 9999 likewise")
    void textWithALeadingZeroInASecondNumberIsAnError() {
        due("firstError() of 0-00", typed("0-00").firstError(), 3);
        due("firstError() of 0-07", typed("0-07").firstError(), 3);
        due("firstError() of 5-07", typed("5-07").firstError(), 2);
    }

    @Holds(in = "Input text", words = "and perhaps \"-\" and a number")
    void textWithTwoSecondNumbersIsAnError() {
        due("firstError() of 1-2-3", typed("1-2-3").firstError(), 3);
        due("firstError() of 1--3", typed("1--3").firstError(), 2);
        due("firstError() of 1-,3", typed("1-,3").firstError(), 2);
    }

    @Holds(in = "Input text", words = "which is not less than the first one")
    void textWithASecondNumberLikeTheFirst() {
        due("firstError() of 40-40", typed("40-40").firstError(), 5);
        due("sendAll() of 40-40", typed("40-40").sendAll(), 1);
        due("firstError() of 9999-9999", typed("9999-9999").firstError(), 9);
        due("sendAll() of 9999-9999", typed("9999-9999").sendAll(), 1);
    }

    @Holds(in = "Input text", words = "which is not less than the first one")
    void textWithASecondNumberOneLessIsNotComplete() {
        refused(() -> typed("40-39"), "sendAll() of 40-39", ARGUMENT, MixedBlocks::sendAll);
        due("firstError() of 40-39,", typed("40-39,").firstError(), 5);
        due("firstError() of 9999-9998", typed("9999-9998").firstError(), 8);
        due("firstError() of 1-0", typed("1-0").firstError(), 2);
    }

    @Holds(in = "Input text", words = "all mixes from the first to the second one")
    void textOfARangeIsBothEndsAndAllBetween() {
        MixedBlocks x = typed("66-72");
        MixedBlocks y = hearing(8);
        for (int k = 66; k <= 72; k++) {
            y.send(k);
        }
        due("sendAll()", x.sendAll(), 7);
        for (int what = 1; what <= 8; what++) {
            due("receiver(0, " + what + ")", x.receiver(0, what), y.receiver(0, what));
        }
    }

    @Holds(in = "Input text", words = "The buffer is read from left to right")
    void textWithTwoErrorsHasTheLeftOneFirst() {
        due("firstError() of 5x,,", typed("5x,,").firstError(), 1);
        due("firstError() of 1,,-", typed("1,,-").firstError(), 2);
    }

    @Holds(in = "Input text", words = "a character is a syntax error if no mixes as a text, of any length, begin")
    void textThatCanStillBecomeMixesIsNoError() {
        // each second number is less than the first one, and can still become greater
        String[] texts = {"40-3", "40-39", "500-5", "500-49", "9999-9", "9999-99", "9999-999", "9-1", "10-9", "5-",
            "5,"};
        for (String text : texts) {
            due("firstError() of " + text, typed(text).firstError(), text.length());
        }
    }

    @Holds(in = "Input text", words = "a character is a syntax error if no mixes as a text, of any length, begin")
    void textThatCanNoMoreBecomeMixesIsAnError() {
        String[] texts = {"6000-5", "6000-59", "9999-98", "9999-8", "100-1,99-98", "1000-100-", "5000-5,"};
        int[] want = {5, 5, 6, 5, 5, 8, 6};
        for (int i = 0; i < texts.length; i++) {
            due("firstError() of " + texts[i], typed(texts[i]).firstError(), want[i]);
        }
    }

    /** What would make it complete has no room in the buffer, but a text of any length goes on so. */
    @Holds(in = "Input text", words = "of any length")
    void textThatTheBufferIsTooShortForIsNoError() {
        String[] texts = {"1,".repeat(29) + "7,", "1,".repeat(29) + "7-", "1,".repeat(26) + "11,40-39"};
        for (String text : texts) {
            due("length of " + text, text.length(), 60);
            due("firstError() of " + text, typed(text).firstError(), 60);
            refused(() -> typed(text), "sendAll() of " + text, ARGUMENT, MixedBlocks::sendAll);
        }
    }

    // ---- undo

    @Holds(in = "Undo", words = "saves the state from before it (also if it changes nothing)")
    void undoSavesAlsoIfNothingIsChanged() {
        undone(MixedBlocks::new, "size(8)", x -> x.size(8));
        undone(MixedBlocks::new, "write(0, 0)", x -> x.write(0, 0));
        undone(MixedBlocks::new, "listen(0, false)", x -> x.listen(0, false));
        undone(MixedBlocks::new, "forget(0)", x -> x.forget(0));
        undone(MixedBlocks::new, "eliminate(0)", x -> x.eliminate(0));
    }

    @Holds(in = "Undo", words = "Each method that is marked \"undoable\" and does not throw an exception")
    void undoSavesNothingIfTheCallThrows() {
        refused(Cases::young, "size(1)", ARGUMENT, x -> x.size(1));
        refused(Cases::young, "write(8, 0)", INDEX, x -> x.write(8, 0));
        refused(Cases::young, "write(0, 65536)", ARGUMENT, x -> x.write(0, 65536));
        refused(Cases::young, "listen(3, true)", INDEX, x -> x.listen(3, true));
        refused(Cases::young, "forget(3)", INDEX, x -> x.forget(3));
        refused(Cases::young, "send(10000)", ARGUMENT, x -> x.send(10000));
        refused(Cases::young, "eliminate(3)", INDEX, x -> x.eliminate(3));
        refused(Cases::young, "sendAll() of nothing", ARGUMENT, MixedBlocks::sendAll);
    }

    @Holds(in = "Undo", words = "Each method that is marked \"undoable\"")
    void undoSavesNothingForOtherMethods() {
        MixedBlocks x = young();
        x.append('5');
        x.firstError();
        x.clearBuffer();
        due("count(5) behind append, firstError, clearBuffer", x.count(SAVED), 4);
        x.mix(5, 2);
        x.receiver(0, 8);
        x.known(0, 0);
        x.waiting(0, 0, 0);
        x.block(0);
        due("count(5) behind looks", x.count(SAVED), 4);
        x.ifGot(0, 5, 1);
        x.helps(0, 5);
        x.needs(0, 5, true);
        x.ifEliminated(0);
        x.use(0);
        x.digest();
        due("count(5) behind what would be", x.count(SAVED), 4);
        same("calls that are not undoable", x, young());
    }

    @Holds(in = "Undo", words = "all, also what is counted so far, but the buffer and the saved states")
    void undoBringsBackAllThatWas() {
        undone(Cases::young, "size(12)", x -> x.size(12));
        undone(Cases::young, "size(2)", x -> x.size(2));
        undone(Cases::young, "write(0, 1)", x -> x.write(0, 1));
        undone(Cases::young, "listen(1, true)", x -> x.listen(1, true));
        undone(Cases::young, "listen(0, false)", x -> x.listen(0, false));
        undone(Cases::young, "forget(0)", x -> x.forget(0));
        undone(Cases::young, "send that is known", x -> mix(x, 0));
        undone(Cases::young, "send that waits", x -> mix(x, 2, 3));
        undone(Cases::young, "send that tells nothing", x -> mix(x, 1));
        undone(() -> someWait(), "eliminate(0)", x -> x.eliminate(0));
    }

    /** The three that wait tell the blocks 3 and 5 together. */
    private static MixedBlocks someWait() {
        MixedBlocks x = new MixedBlocks();
        x.write(3, 65535);
        x.listen(0, true);
        mixes(x, new int[][] {{1, 2}, {1, 2, 3}, {3, 5}});
        return x;
    }

    @Holds(in = "Undo", words = "also what is counted so far")
    void undoBringsBackWhatIsCounted() {
        MixedBlocks x = full(8);
        mix(x, 3, 5);
        due("lost", x.receiver(0, LOST), 1);
        x.undo();
        due("lost behind undo", x.receiver(0, LOST), 0);
        due("got behind undo", x.receiver(0, GOT), 24);
        due("sent behind undo", x.count(SENT), 24);
        mixes(x, new int[][] {{4}, {4}});
        due("told nothing", x.receiver(0, NOTHING), 1);
        x.undo();
        due("told nothing behind undo", x.receiver(0, NOTHING), 0);
        due("use(0) behind undo", x.use(0), 1.0);
    }

    @Holds(in = "Undo", words = "but the buffer and the saved states")
    void undoLeavesTheBuffer() {
        MixedBlocks x = hearing(8);
        type(x, "1,2");
        x.listen(1, true);
        type(x, ",3");
        x.undo();
        due("buffer that has grown", x.clearBuffer(), 5);
        type(x, "1,2");
        x.listen(1, true);
        x.clearBuffer();
        x.undo();
        due("buffer that was cleared", x.clearBuffer(), 0);
    }

    @Holds(in = "Undo", words = "At most 6 states are saved; the oldest one is dropped first.")
    void undoThe6thStateIsSaved() {
        MixedBlocks x = new MixedBlocks();
        for (int i = 1; i <= 6; i++) {
            x.write(0, i);
            due("count(5) behind the call " + i, x.count(SAVED), i);
        }
        for (int left = 5; left >= 0; left--) {
            due("undo()", x.undo(), left);
            due("block(0)", x.block(0), left);
        }
        checks.throwsJust("undo() of none", STATE, x::undo);
    }

    @Holds(in = "Undo", words = "At most 6 states are saved; the oldest one is dropped first.")
    void undoThe7thStateDropsTheFirst() {
        MixedBlocks x = new MixedBlocks();
        for (int i = 1; i <= 7; i++) {
            x.write(0, i);
        }
        due("count(5)", x.count(SAVED), 6);
        for (int left = 5; left >= 0; left--) {
            due("undo()", x.undo(), left);
            due("block(0)", x.block(0), left + 1);
        }
        checks.throwsJust("undo() of none", STATE, x::undo);
        due("block(0) behind it", x.block(0), 1);
    }

    /** Whatever place the states have, they are the latest 6. */
    @Holds(in = "Undo", words = "the oldest one is dropped first")
    void undoAgainBehindEachNumberOfDroppedOnes() {
        for (int calls = 1; calls <= 14; calls++) {
            MixedBlocks x = new MixedBlocks();
            for (int i = 1; i <= calls; i++) {
                x.write(0, i);
            }
            int saved = Math.min(6, calls);
            x.undo();
            x.write(0, 99);
            for (int back = 1; back <= saved; back++) {
                due("undo() " + back + " of " + calls, x.undo(), saved - back);
                due("block(0) behind it", x.block(0), calls - back);
            }
        }
    }

    // ---- exceptions

    @Holds(in = "Exceptions", words = "A call that throws an exception changes nothing.")
    void exceptionsChangeNothingOneBehindTheOther() {
        On[] calls = {x -> x.size(13), x -> x.write(-1, 5), x -> x.write(0, -1), x -> x.listen(-1, true),
            x -> x.forget(-1), x -> x.send(-1), x -> x.eliminate(-1), x -> x.append(127), MixedBlocks::sendAll,
            x -> x.mix(-1, 0), x -> x.receiver(0, 9), x -> x.known(0, 8), x -> x.waiting(0, -1, 0), x -> x.count(6),
            x -> x.block(8), x -> x.ifGot(0, 10000, 0), x -> x.helps(0, 10000), x -> x.needs(0, 9900, true),
            x -> x.ifEliminated(3), x -> x.use(3)};
        MixedBlocks x = busy();
        for (On call : calls) {
            String answer = String.valueOf(Checks.answerOf(() -> call.answer(x)));
            due("throws", answer.startsWith("throws."), true);
        }
        same("calls that throw", x, busy());
    }

    @Holds(in = "Exceptions", words = "the one that is named first in the throws clause is thrown")
    void exceptionsTheOneThatIsNamedFirst() {
        refused(Cases::busy, "write(8, 65536)", INDEX, x -> x.write(8, 65536));
        refused(Cases::busy, "write(-1, -1)", INDEX, x -> x.write(-1, -1));
        refused(() -> typed("7".repeat(60)), "append(32) to 60", ARGUMENT, x -> x.append(32));
        refused(() -> typed("7".repeat(60)), "append(127) to 60", ARGUMENT, x -> x.append(127));
        refused(Cases::busy, "receiver(3, 9)", INDEX, x -> x.receiver(3, 9));
        refused(Cases::busy, "waiting(3, -1, 2)", INDEX, x -> x.waiting(3, -1, 2));
        refused(Cases::busy, "waiting(-1, -1, 0)", INDEX, x -> x.waiting(-1, -1, 0));
        refused(Cases::busy, "ifGot(3, 10000, 2)", INDEX, x -> x.ifGot(3, 10000, 2));
        refused(Cases::busy, "helps(3, 10000)", INDEX, x -> x.helps(3, 10000));
        refused(Cases::busy, "needs(3, 9900, false)", INDEX, x -> x.needs(3, 9900, false));
    }

    @Holds(in = "Exceptions", words = "`NONE = -1`: There is nothing to return.")
    void exceptionsNoneIsMinus1() {
        due("NONE", MixedBlocks.NONE, -1);
        due("known(0, 0)", new MixedBlocks().known(0, 0), -1);
        due("waiting(0, 0, 1)", new MixedBlocks().waiting(0, 0, 1), -1);
    }
}
