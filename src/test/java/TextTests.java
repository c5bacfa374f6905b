/** Promises 8 to 12: a test for each sentence that names a boundary case. */
public final class TextTests extends Cases {
    public static void main(String[] args) {
        new TextTests().runAll();
    }

    private static MixedBlocks fullBuffer() {
        return typed("12-34,567,".repeat(6));
    }

    // ---- promise 8

    @Holds(in = "Promise 8", words = {"`code`: the character code, 33 to 126", "Appends a character to the buffer."})
    void promise8TheCode33IsAllowed() {
        MixedBlocks x = new MixedBlocks();
        due("append(33)", x.append(33), 1);
        due("digest()", x.digest(), digestOf(x, "!"));
    }

    @Holds(in = "Promise 8", words = {"`code`: the character code, 33 to 126", "Appends a character to the buffer."})
    void promise8TheCode126IsAllowed() {
        MixedBlocks x = new MixedBlocks();
        due("append(126)", x.append(126), 1);
        due("digest()", x.digest(), digestOf(x, "~"));
    }

    @Holds(in = "Promise 8", words = "Throws `IllegalArgumentException` if code is not 33 to 126")
    void promise8TheCode32IsRefused() {
        refusedBelow(33, "append", ARGUMENT, (x, code) -> x.append(code));
        refused(Cases::busy, "append(0)", ARGUMENT, x -> x.append(0));
        refused(Cases::busy, "append(-1)", ARGUMENT, x -> x.append(-1));
    }

    @Holds(in = "Promise 8", words = "Throws `IllegalArgumentException` if code is not 33 to 126")
    void promise8TheCode127IsRefused() {
        refusedAbove(126, "append", ARGUMENT, (x, code) -> x.append(code));
        // its last 16 bits are those of '5'
        refused(Cases::busy, "append(65536 + '5')", ARGUMENT, x -> x.append(65536 + '5'));
    }

    @Holds(in = "Promise 8", words = "Returns the new length of the buffer.")
    void promise8ReturnsTheLengthFrom1To60() {
        MixedBlocks x = new MixedBlocks();
        for (int i = 1; i <= 60; i++) {
            due("append", x.append('7'), i);
        }
    }

    @Holds(in = "Promise 8", words = "Throws `IllegalStateException` if the buffer has 60 characters")
    void promise8The61stCharacterIsRefused() {
        refused(TextTests::fullBuffer, "append('7')", STATE, x -> x.append('7'));
        refused(TextTests::fullBuffer, "append(33)", STATE, x -> x.append(33));
        refused(TextTests::fullBuffer, "append(126)", STATE, x -> x.append(126));
    }

    @Holds(in = "Promise 8",
        words = {"Throws `IllegalArgumentException` if code", "Throws `IllegalStateException` if the buffer"})
    void promise8TheCodeIsLookedAtAheadOfTheBuffer() {
        refused(TextTests::fullBuffer, "append(32)", ARGUMENT, x -> x.append(32));
        refused(TextTests::fullBuffer, "append(127)", ARGUMENT, x -> x.append(127));
    }

    @Holds(in = "Promise 8", words = "Appends a character to the buffer.")
    void promise8IsNotUndoable() {
        MixedBlocks x = hearing(8);
        int saved = x.count(SAVED);
        x.append('5');
        due("count(5)", x.count(SAVED), saved);
    }

    // ---- promise 9

    @Holds(in = "Promise 9", words = {"Clears the buffer.", "Returns the length that it had."})
    void promise9TheEmptyBuffer() {
        MixedBlocks x = new MixedBlocks();
        due("clearBuffer()", x.clearBuffer(), 0);
        due("clearBuffer() again", x.clearBuffer(), 0);
        same("clearBuffer()", x, new MixedBlocks());
    }

    @Holds(in = "Promise 9", words = {"Clears the buffer.", "Returns the length that it had."})
    void promise9TheFullBuffer() {
        MixedBlocks x = fullBuffer();
        due("clearBuffer()", x.clearBuffer(), 60);
        same("clearBuffer()", x, hearing(8));
        due("append('7') behind it", fullAgain().append('7'), 1);
        due("clearBuffer() behind it", fullAgain().clearBuffer(), 0);
    }

    private static MixedBlocks fullAgain() {
        MixedBlocks x = fullBuffer();
        x.clearBuffer();
        return x;
    }

    @Holds(in = "Promise 9", words = "Clears the buffer.")
    void promise9AnErrorIsCleared() {
        MixedBlocks x = typed("x");
        due("clearBuffer()", x.clearBuffer(), 1);
        due("firstError()", x.firstError(), 0);
        x.append('5');
        due("firstError() of 5", x.firstError(), 1);
        due("sendAll() of 5", x.sendAll(), 1);
    }

    @Holds(in = "Promise 9", words = "Clears the buffer.")
    void promise9IsNotUndoable() {
        MixedBlocks x = typed("5");
        int saved = x.count(SAVED);
        x.clearBuffer();
        due("count(5)", x.count(SAVED), saved);
    }

    // ---- promise 10

    @Holds(in = "Promise 10", words = "the length of the buffer if there is none")
    void promise10TheEmptyBuffer() {
        due("firstError()", new MixedBlocks().firstError(), 0);
    }

    @Holds(in = "Promise 10", words = "the length of the buffer if there is none")
    void promise10TheFullBuffer() {
        due("firstError()", fullBuffer().firstError(), 60);
        due("firstError() of 59", typed("12,".repeat(19) + "12").firstError(), 59);
    }

    @Holds(in = "Promise 10", words = "Returns the index of the first character that is a syntax error")
    void promise10TheFirstCharacterIsAnError() {
        for (int code = 33; code <= 126; code++) {
            MixedBlocks x = new MixedBlocks();
            x.append(code);
            boolean digit = code >= '0' && code <= '9';
            due("firstError() of the code " + code, x.firstError(), digit ? 1 : 0);
        }
    }

    @Holds(in = "Promise 10", words = "Returns the index of the first character that is a syntax error")
    void promise10TheCharacterBehindANumberIsAnError() {
        for (int code = 33; code <= 126; code++) {
            MixedBlocks x = typed("7");
            x.append(code);
            boolean right = code >= '0' && code <= '9' || code == '-' || code == ',';
            due("firstError() of 7 and the code " + code, x.firstError(), right ? 2 : 1);
        }
    }

    @Holds(in = "Promise 10", words = "Returns the index of the first character that is a syntax error")
    void promise10TheLastCharacterIsAnError() {
        due("firstError() of 60", typed("1,".repeat(29) + "1x").firstError(), 59);
        due("firstError() of 2", typed("1x").firstError(), 1);
    }

    @Holds(in = "Promise 10", words = "Finds the first syntax error of the buffer.")
    void promise10BehindAnErrorNothingCounts() {
        due("firstError() of 1;2,3", typed("1;2,3").firstError(), 1);
        due("firstError() of x and 59 more", typed("x" + "1,".repeat(29) + "1").firstError(), 0);
    }

    @Holds(in = "Promise 10", words = "Finds the first syntax error of the buffer.")
    void promise10ChangesNothing() {
        looks(() -> typed("5,,"), "firstError()", MixedBlocks::firstError);
        looks(TextTests::fullBuffer, "firstError()", MixedBlocks::firstError);
    }

    // ---- promise 11

    private void sends(String text, int want) {
        MixedBlocks x = typed(text);
        due("sendAll() of " + text, x.sendAll(), want);
        due("count(1)", x.count(SENT), want);
        due("receiver(0, 4)", x.receiver(0, GOT), want);
        due("clearBuffer()", x.clearBuffer(), 0);
    }

    @Holds(in = "Promise 11", words = "Returns how many are sent.")
    void promise11OneMixIsSent() {
        sends("0", 1);
        sends("9999", 1);
    }

    @Holds(in = "Promise 11", words = "but at most 100 of them")
    void promise11NinetyNineMixesAreSent() {
        sends("0-98", 99);
        sends("9000,1-98", 99);
    }

    @Holds(in = "Promise 11", words = "but at most 100 of them")
    void promise11AHundredMixesAreSent() {
        sends("0-99", 100);
        sends("9900-9999", 100);
        sends("0-98,5", 100);
        sends("5,0-98", 100);
    }

    @Holds(in = "Promise 11", words = "but at most 100 of them")
    void promise11OfAHundredAndOneTheLastIsNotSent() {
        sends("0-100", 100);
        sends("0-99,5", 100);
        sends("5,0-99", 100);
        sends("0-49,0-49,5", 100);
        sends("0-59,0-59,5", 100);
        sends("0-9999", 100);
        sends("0-9999,0-9999", 100);
    }

    /** From mix 447 on it takes just 100 mixes to know a file of 9 blocks. */
    @Holds(in = "Promise 11", words = {"Sends the mixes in the buffer, one after the other", "but at most 100 of them"})
    void promise11The100thIsSentAndThe101stIsNot() {
        due("done by the 99th", doneOf9("447-545"), 0);
        due("done by the 100th", doneOf9("447-546"), 1);
        due("done by the 100th of two parts", doneOf9("447-545,546"), 1);
        due("done by the 101st", doneOf9("446-546"), 0);
        due("done by the 101st of two parts", doneOf9("447,447-546"), 0);
    }

    private static int doneOf9(String text) {
        MixedBlocks x = hearing(9);
        type(x, text);
        x.sendAll();
        return x.receiver(0, DONE);
    }

    @Holds(in = "Promise 11", words = "Sends the mixes in the buffer, one after the other")
    void promise11SendsInTheOrderOfTheText() {
        int[] order = {numberOf(8, 2, 3), numberOf(8, 0, 1), numberOf(8, 4, 5), numberOf(8, 1, 2)};
        StringBuilder text = new StringBuilder();
        for (int k : order) {
            text.append(text.length() > 0 ? "," : "").append(k);
        }
        MixedBlocks x = typed(text.toString());
        due("sendAll() of " + text, x.sendAll(), 4);
        for (int i = 0; i < 4; i++) {
            due("waiting(0, " + i + ", 0)", x.waiting(0, i, 0), maskOf(8, order[i]));
        }
    }

    @Holds(in = "Promise 11", words = "Sends the mixes in the buffer")
    void promise11SendsTheFirst100OfTheText() {
        MixedBlocks x = filled(12);
        x.listen(0, true);
        type(x, "3-3,700-760,8000-8999");
        MixedBlocks y = filled(12);
        y.listen(0, true);
        y.send(3);
        for (int k = 700; k <= 760; k++) {
            y.send(k);
        }
        for (int k = 8000; k < 8038; k++) {
            y.send(k);
        }
        due("sendAll()", x.sendAll(), 100);
        for (int what = 0; what <= 8; what++) {
            due("receiver(0, " + what + ")", x.receiver(0, what), y.receiver(0, what));
        }
    }

    @Holds(in = "Promise 11", words = "Returns how many are sent.")
    void promise11AlsoThoseThatNobodyGets() {
        MixedBlocks x = filled(8);
        type(x, "5-7");
        due("sendAll()", x.sendAll(), 3);
        due("count(1)", x.count(SENT), 3);
        due("receiver(0, 4)", x.receiver(0, GOT), 0);
    }

    @Holds(in = "Promise 11", words = "and clears the buffer")
    void promise11ClearsTheFullBuffer() {
        MixedBlocks x = typed("1,".repeat(29) + "10");
        due("sendAll()", x.sendAll(), 30);
        due("clearBuffer()", x.clearBuffer(), 0);
        due("firstError()", x.firstError(), 0);
        checks.throwsJust("sendAll() again", ARGUMENT, x::sendAll);
    }

    @Holds(in = "Promise 11", words = "Throws `IllegalArgumentException` if the buffer is not complete mixes as a text")
    void promise11TheEmptyBufferIsRefused() {
        refused(MixedBlocks::new, "sendAll()", ARGUMENT, MixedBlocks::sendAll);
    }

    @Holds(in = "Promise 11", words = "Throws `IllegalArgumentException` if the buffer is not complete mixes as a text")
    void promise11ATextWithAnErrorIsRefused() {
        for (String text : new String[] {"x", "5x", "1,2,,3", "05", "10000", "1-2-3", "7-5", "5;", "-5"}) {
            refused(() -> typed(text), "sendAll() of " + text, ARGUMENT, MixedBlocks::sendAll);
        }
    }

    @Holds(in = "Promise 11", words = "Throws `IllegalArgumentException` if the buffer is not complete mixes as a text")
    void promise11ATextThatIsNotCompleteIsRefused() {
        for (String text : new String[] {"5,", "5-", "1,2-", "40-3", "40-39", "9999-999", "0-200,"}) {
            due("firstError() of " + text, typed(text).firstError(), text.length());
            refused(() -> typed(text), "sendAll() of " + text, ARGUMENT, MixedBlocks::sendAll);
        }
    }

    @Holds(in = "Promise 11", words = "Undoable, as one call.")
    void promise11IsUndoableAsOneCall() {
        MixedBlocks x = young();
        type(x, "0-99");
        due("sendAll()", x.sendAll(), 100);
        due("count(5)", x.count(SAVED), 5);
        due("undo()", x.undo(), 4);
        due("clearBuffer()", x.clearBuffer(), 0);
        same("sendAll() and undo()", x, young());
    }

    // ---- promise 12

    @Holds(in = "Promise 12", words = "Throws `IllegalStateException` if there is none")
    void promise12WithoutAnySavedState() {
        refused(MixedBlocks::new, "undo() of a new object", STATE, MixedBlocks::undo);
        refused(TextTests::onlyTyped, "undo() behind append", STATE, MixedBlocks::undo);
        refused(TextTests::allUndone, "undo() behind all undone", STATE, MixedBlocks::undo);
    }

    private static MixedBlocks onlyTyped() {
        MixedBlocks x = new MixedBlocks();
        type(x, "5,x");
        return x;
    }

    private static MixedBlocks allUndone() {
        MixedBlocks x = busy();
        for (int i = 0; i < 6; i++) {
            x.undo();
        }
        return x;
    }

    @Holds(in = "Promise 12", words = "Returns how many saved states are left.")
    void promise12Returns5Behind6And0Behind1() {
        MixedBlocks x = busy();
        for (int left = 5; left >= 0; left--) {
            due("undo()", x.undo(), left);
            due("count(5)", x.count(SAVED), left);
        }
        MixedBlocks y = new MixedBlocks();
        y.listen(0, true);
        due("undo() of the only one", y.undo(), 0);
    }

    @Holds(in = "Promise 12", words = "Restores the latest saved state, and drops it.")
    void promise12TheLatestIsRestoredFirst() {
        MixedBlocks x = new MixedBlocks();
        x.write(0, 1);
        x.write(1, 2);
        x.undo();
        due("block(0)", x.block(0), 1);
        due("block(1)", x.block(1), 0);
        x.undo();
        due("block(0) behind both", x.block(0), 0);
    }

    @Holds(in = "Promise 12", words = "and drops it")
    void promise12IsItselfNotUndone() {
        MixedBlocks x = new MixedBlocks();
        x.write(0, 1);
        x.write(0, 2);
        x.undo();
        due("block(0)", x.block(0), 1);
        x.undo();
        due("block(0) behind two", x.block(0), 0);
        checks.throwsJust("undo() of none", STATE, x::undo);
    }

    @Holds(in = "Promise 12", words = "Restores the latest saved state")
    void promise12WhatIsRestoredStaysWhenItIsChangedAgain() {
        MixedBlocks x = young();
        x.size(12);
        x.undo();
        mixes(x, new int[][] {{0}, {2, 3}});
        x.undo();
        x.undo();
        same("changes of what was restored", x, young());
    }
}
