/** One method a promise, in the order of the document: ordinary calls and wrong ones, each beside the other. */
public final class PromiseTests extends Cases {
    // mixes of a file of 8 blocks, by the blocks that they have
    private static final int M_0 = 68;
    private static final int M_3 = 4;
    private static final int M_01 = 38;
    private static final int M_01_TOO = 41;
    private static final int M_12 = 69;
    private static final int M_35 = 57;
    private static final int M_123 = 46;
    private static final int M_ALL = 2;
    private static final int[] SINGLES = {68, 71, 61, 4, 67, 70, 0, 1};

    public static void main(String[] args) {
        PromiseTests tests = new PromiseTests();
        tests.promise1NewObject();
        tests.promise2Size();
        tests.promise3Write();
        tests.promise4Listen();
        tests.promise5Forget();
        tests.promise6Send();
        tests.promise6Room();
        tests.promise7Eliminate();
        tests.promise8Append();
        tests.promise9ClearBuffer();
        tests.promise10FirstError();
        tests.promise11SendAll();
        tests.promise12Undo();
        tests.promise13Mix();
        tests.promise14Receiver();
        tests.promise15Known();
        tests.promise16Waiting();
        tests.promise17Count();
        tests.promise18Block();
        tests.promise19IfGot();
        tests.promise20Helps();
        tests.promise21Needs();
        tests.promise22IfEliminated();
        tests.promise23Use();
        tests.promise24Digest();
        tests.checks.end();
    }

    private static void send(MixedBlocks x, int... mixes) {
        for (int mix : mixes) {
            x.send(mix);
        }
    }

    /** A call that throws changes nothing, and saves nothing. */
    private void refuses(MixedBlocks x, String call, Class<? extends RuntimeException> kind, Checks.Call tried) {
        long before = x.digest();
        checks.throwsJust(call, kind, tried);
        checks.due("digest() behind " + call, x.digest(), before);
    }

    /** A look changes nothing, and saves nothing. */
    private void leaves(MixedBlocks x, String call, Checks.Call tried) {
        long before = x.digest();
        tried.answer();
        checks.due("digest() behind " + call, x.digest(), before);
    }

    /** Undo brings back all that there was before the call. */
    private void isUndone(MixedBlocks x, String call, Checks.Call tried) {
        int saved = x.count(5);
        String before = stateOf(x);
        tried.answer();
        checks.due("saved states behind " + call, x.count(5), Math.min(6, saved + 1));
        checks.due("undo() of " + call, x.undo(), Math.min(6, saved + 1) - 1);
        checks.due("state behind undo() of " + call, stateOf(x), before);
    }

    /** All but the saved states and the buffer. */
    private static String stateOf(MixedBlocks x) {
        StringBuilder state = new StringBuilder();
        int blocks = x.count(0);
        state.append(blocks).append(' ').append(x.count(1));
        for (int b = 0; b < blocks; b++) {
            state.append(' ').append(x.block(b));
        }
        for (int r = 0; r < 3; r++) {
            for (int what = 0; what <= 6; what++) {
                state.append(' ').append(x.receiver(r, what));
            }
            for (int i = x.receiver(r, 3) - 1; i >= 0; i--) {
                state.append(' ').append(x.waiting(r, i, 0)).append(' ').append(x.waiting(r, i, 1));
            }
        }
        return state.toString();
    }

    private void promise1NewObject() {
        MixedBlocks x = new MixedBlocks();
        int[] counts = {8, 0, 0, 0, 0, 0};
        for (int what = 0; what <= 5; what++) {
            checks.due("1: count(" + what + ")", x.count(what), counts[what]);
        }
        for (int b = 0; b < 8; b++) {
            checks.due("1: block(" + b + ")", x.block(b), 0);
            for (int r = 0; r < 3; r++) {
                checks.due("1: known(" + r + ", " + b + ")", x.known(r, b), NONE);
            }
        }
        for (int r = 0; r < 3; r++) {
            for (int what = 0; what <= 8; what++) {
                checks.due("1: receiver(" + r + ", " + what + ")", x.receiver(r, what), 0);
            }
        }
        checks.due("1: firstError()", x.firstError(), 0);
        checks.due("1: clearBuffer()", x.clearBuffer(), 0);
        checks.throwsJust("1: undo()", STATE, x::undo);
        checks.due("1: NONE", NONE, -1);
    }

    private void promise2Size() {
        MixedBlocks x = filled(8);
        checks.due("2: size(2)", x.size(2), 8);
        checks.due("2: size(12)", x.size(12), 2);
        int[] want = {101, 202, 0, 0, 0, 0, 0, 0, 0, 0, 0, 0};
        for (int b = 0; b < 12; b++) {
            checks.due("2: block(" + b + ") behind size(2), size(12)", x.block(b), want[b]);
        }
        for (int wrong : new int[] {1, 13, 0, -1, Integer.MIN_VALUE, Integer.MAX_VALUE}) {
            refuses(x, "2: size(" + wrong + ")", ARGUMENT, () -> x.size(wrong));
        }
        MixedBlocks y = hearing(8);
        send(y, M_0, M_12);
        checks.due("2: size(8) of 8", y.size(8), 8);
        forgot("2: size to what it was", y, 2);
        isUndone(y, "2: size(8) of 8", () -> y.size(8));
        send(y, M_0, M_12);
        isUndone(y, "2: size(5)", () -> y.size(5));
        checks.due("2: known behind undo", y.known(0, 0), 101);
    }

    private void forgot(String what, MixedBlocks x, int got) {
        checks.due(what + ": knows", x.receiver(0, 1), 0);
        checks.due(what + ": mask", x.receiver(0, 2), 0);
        checks.due(what + ": waits", x.receiver(0, 3), 0);
        checks.due(what + ": known(0, 0)", x.known(0, 0), NONE);
        checks.due(what + ": waiting(0, 0, 0)", x.waiting(0, 0, 0), NONE);
        checks.due(what + ": goes on to listen", x.receiver(0, 0), 1);
        checks.due(what + ": what it got is counted on", x.receiver(0, 4), got);
    }

    private void promise3Write() {
        MixedBlocks x = new MixedBlocks();
        checks.due("3: write(7, 65535)", x.write(7, 65535), 0);
        checks.due("3: write(7, 0)", x.write(7, 0), 65535);
        checks.due("3: write(0, 1)", x.write(0, 1), 0);
        checks.due("3: block(0)", x.block(0), 1);
        checks.due("3: block(7)", x.block(7), 0);
        for (int wrong : new int[] {-1, 8, 12, Integer.MIN_VALUE, Integer.MAX_VALUE}) {
            refuses(x, "3: write(" + wrong + ", 0)", INDEX, () -> x.write(wrong, 0));
            refuses(x, "3: write(" + wrong + ", -1)", INDEX, () -> x.write(wrong, -1));
        }
        for (int wrong : new int[] {-1, 65536, Integer.MIN_VALUE, Integer.MAX_VALUE}) {
            refuses(x, "3: write(0, " + wrong + ")", ARGUMENT, () -> x.write(0, wrong));
        }
        MixedBlocks y = hearing(8);
        send(y, M_0, M_12);
        checks.due("3: write(5, 606) of 606", y.write(5, 606), 606);
        forgot("3: write to what it was", y, 2);
        send(y, M_0, M_12);
        isUndone(y, "3: write(0, 9)", () -> y.write(0, 9));
        y.write(0, 9);
        forgot("3: write(0, 9)", y, 4);
    }

    private void promise4Listen() {
        MixedBlocks x = filled(8);
        checks.due("4: listen(1, true)", x.listen(1, true), 0);
        checks.due("4: listen(1, true) again", x.listen(1, true), 1);
        checks.due("4: receiver(1, 0)", x.receiver(1, 0), 1);
        send(x, M_0);
        checks.due("4: receiver 1 got", x.receiver(1, 4), 1);
        checks.due("4: receiver 0 got", x.receiver(0, 4), 0);
        checks.due("4: listen(1, false)", x.listen(1, false), 1);
        checks.due("4: listen(1, false) again", x.listen(1, false), 0);
        send(x, M_3);
        checks.due("4: receiver 1 got no more", x.receiver(1, 4), 1);
        checks.due("4: and knows what it knew", x.known(1, 0), 101);
        isUndone(x, "4: listen(2, true)", () -> x.listen(2, true));
        isUndone(x, "4: listen(2, false) which it is", () -> x.listen(2, false));
        for (int wrong : new int[] {-1, 3, Integer.MIN_VALUE, Integer.MAX_VALUE}) {
            refuses(x, "4: listen(" + wrong + ", true)", INDEX, () -> x.listen(wrong, true));
        }
    }

    private void promise5Forget() {
        MixedBlocks x = hearing(8);
        x.listen(1, true);
        send(x, M_0, M_3, M_12);
        checks.due("5: forget(0)", x.forget(0), 2);
        forgot("5: forget(0)", x, 3);
        checks.due("5: receiver 1 knows", x.receiver(1, 1), 2);
        checks.due("5: receiver 1 waits", x.receiver(1, 3), 1);
        checks.due("5: forget(0) again", x.forget(0), 0);
        isUndone(x, "5: forget(1)", () -> x.forget(1));
        isUndone(x, "5: forget(2) of nothing", () -> x.forget(2));
        for (int wrong : new int[] {-1, 3, Integer.MIN_VALUE, Integer.MAX_VALUE}) {
            refuses(x, "5: forget(" + wrong + ")", INDEX, () -> x.forget(wrong));
        }
    }

    private void promise6Send() {
        MixedBlocks x = hearing(8);
        checks.due("6: send(M_01)", x.send(M_01), 0);
        checks.due("6: send(M_01_TOO)", x.send(M_01_TOO), 0);
        checks.due("6: send(M_12)", x.send(M_12), 0);
        checks.due("6: send(M_123)", x.send(M_123), 0);
        x.listen(1, true);
        checks.due("6: send(M_35)", x.send(M_35), 0);
        checks.due("6: send(M_0), 0 by itself, 1, 2, 3, 5 by peeling, and for the other 0", x.send(M_0), 6);
        checks.due("6: mask of receiver 0", x.receiver(0, 2), 0b101111);
        checks.due("6: mask of receiver 1", x.receiver(1, 2), 0b1);
        checks.due("6: the second {0, 1} told nothing new in the end", x.receiver(0, 5), 1);
        checks.due("6: waits", x.receiver(0, 3), 0);
        int[] want = {101, 202, 303, 404, NONE, 606, NONE, NONE};
        for (int b = 0; b < 8; b++) {
            checks.due("6: known(0, " + b + ")", x.known(0, b), want[b]);
        }
        checks.due("6: send(M_0) again", x.send(M_0), 0);
        checks.due("6: told nothing new", x.receiver(0, 5), 2);
        checks.due("6: what is known is taken out of what comes", x.send(M_ALL), 0);
        checks.due("6: left of all", x.waiting(0, 0, 0), 0b11010000);
        checks.due("6: value left of all", x.waiting(0, 0, 1), 505 ^ 707 ^ 808);
        checks.due("6: sent", x.count(1), 8);
        isUndone(x, "6: send(1)", () -> x.send(1));
        for (int wrong : new int[] {-1, 10000, Integer.MIN_VALUE, Integer.MAX_VALUE}) {
            refuses(x, "6: send(" + wrong + ")", ARGUMENT, () -> x.send(wrong));
        }
        MixedBlocks y = filled(8);
        checks.due("6: send(9999) that nobody hears", y.send(9999), 0);
        checks.due("6: it is sent", y.count(1), 1);
    }

    private void promise6Room() {
        MixedBlocks x = hearing(8);
        for (int i = 0; i < 24; i++) {
            x.send(i % 2 == 0 ? M_01 : M_12);
        }
        checks.due("6: waits with 24", x.receiver(0, 3), 24);
        checks.due("6: lost with 24", x.receiver(0, 6), 0);
        checks.due("6: send(M_35) without room", x.send(M_35), 0);
        checks.due("6: waits with 25", x.receiver(0, 3), 24);
        checks.due("6: lost with 25", x.receiver(0, 6), 1);
        checks.due("6: rank with 25", x.receiver(0, 8), 2);
        checks.due("6: one block needs no room", x.send(M_3), 1);
        checks.due("6: send(M_0) peels all", x.send(M_0), 3);
        checks.due("6: 11 {0, 1} and 11 {1, 2} told nothing", x.receiver(0, 5), 22);
        checks.due("6: waits behind it", x.receiver(0, 3), 0);
        x.undo();
        x.undo();
        x.undo();
        checks.due("12: lost behind undo()", x.receiver(0, 6), 0);
        checks.due("12: waits behind undo()", x.receiver(0, 3), 24);
    }

    private void promise7Eliminate() {
        MixedBlocks x = hearing(8);
        send(x, M_12, M_123, M_35);
        checks.due("7: peeling found nothing", x.receiver(0, 1), 0);
        checks.due("7: eliminate(1)", x.eliminate(1), 0);
        checks.due("7: eliminate(0)", x.eliminate(0), 2);
        checks.due("7: known(0, 3)", x.known(0, 3), 404);
        checks.due("7: known(0, 5)", x.known(0, 5), 606);
        checks.due("7: waits", x.receiver(0, 3), 2);
        checks.due("7: first left", x.waiting(0, 0, 0), 0b110);
        checks.due("7: second left", x.waiting(0, 1, 0), 0b110);
        checks.due("7: {3, 5} told 5 as soon as 3 was known", x.receiver(0, 5), 0);
        checks.due("7: eliminate(0) again", x.eliminate(0), 0);
        isUndone(x, "7: eliminate(0) of nothing", () -> x.eliminate(0));
        x.forget(0);
        send(x, M_12, M_123, M_35);
        isUndone(x, "7: eliminate(0)", () -> x.eliminate(0));
        // {1, 7}, {0, 1, 7}, {1, 6, 7}: the first one tells 0 with the second one, and 6 with the third one
        x.forget(0);
        send(x, 63, 33, 39);
        checks.due("7: eliminate(0) of the lowest block", x.eliminate(0), 2);
        checks.due("7: mask", x.receiver(0, 2), 0b1000001);
        checks.due("7: known(0, 0)", x.known(0, 0), 101);
        checks.due("7: known(0, 6)", x.known(0, 6), 707);
        checks.due("7: all go on to wait", x.receiver(0, 3), 3);
        checks.due("7: with {1, 7} left", x.waiting(0, 2, 0), 0b10000010);
        for (int wrong : new int[] {-1, 3, Integer.MIN_VALUE, Integer.MAX_VALUE}) {
            refuses(x, "7: eliminate(" + wrong + ")", INDEX, () -> x.eliminate(wrong));
        }
    }

    private void promise8Append() {
        MixedBlocks x = filled(8);
        checks.due("8: append(33)", x.append(33), 1);
        checks.due("8: append(126)", x.append(126), 2);
        int saved = x.count(5);
        for (int wrong : new int[] {32, 127, 0, -1, Integer.MIN_VALUE, Integer.MAX_VALUE}) {
            refuses(x, "8: append(" + wrong + ")", ARGUMENT, () -> x.append(wrong));
        }
        for (int i = 3; i <= 60; i++) {
            checks.due("8: append('7')", x.append('7'), i);
        }
        checks.due("8: append saves no state", x.count(5), saved);
        refuses(x, "8: append('7') to 60", STATE, () -> x.append('7'));
        refuses(x, "8: append(32) to 60", ARGUMENT, () -> x.append(32));
        checks.due("8: clearBuffer()", x.clearBuffer(), 60);
        checks.due("8: append('7') behind it", x.append('7'), 1);
    }

    private void promise9ClearBuffer() {
        MixedBlocks x = filled(8);
        int saved = x.count(5);
        type(x, "12,x");
        checks.due("9: clearBuffer()", x.clearBuffer(), 4);
        checks.due("9: clearBuffer() again", x.clearBuffer(), 0);
        checks.due("9: firstError()", x.firstError(), 0);
        checks.due("9: clearBuffer saves no state", x.count(5), saved);
        type(x, "5");
        checks.due("9: sendAll() behind it", x.sendAll(), 1);
    }

    private void promise10FirstError() {
        String[] right = {"", "0", "7", "9999", "0-0", "0-9999", "7-7", "9-10", "9-1", "40-3", "40-39", "500-5",
            "500-49", "9999-9999", "9999-9", "9990-999", "5-", "5,", "1,2,3-4,0", "0,0", "1000-1",
            "1000-100", "12-13,12", "10-9"};
        for (String text : right) {
            firstErrorOf(text, text.length());
        }
        String[] wrong = {"x@0", "-@0", ",@0", "00@1", "05@1", "10000@4", "12345@4", "5-,@2", "5--@2", "5-7-@3",
            "5,,@2", "5,-@2", "5-05@2", "5-0@2", "5-4,@3", "40-39,@5", "40-3,@4", "6000-5@5", "6000-0@5", "6000-59@5",
            "9999-9998@8", "9999-98@6", "9999-8@5", "1-10000@6", "0-00@3", "0-05@3", "3;4@1", "3-4x5@3", "1,01@3",
            "1000-0@5", "1000-999,@8", "100-99,@6", "550-549,@7", "5500-549@6", "3.@1", "3/@1", "3:@1", "1-2,x,,@4"};
        for (String row : wrong) {
            int at = row.indexOf('@');
            firstErrorOf(row.substring(0, at), Integer.parseInt(row.substring(at + 1)));
        }
        MixedBlocks x = filled(8);
        type(x, "5,,");
        leaves(x, "10: firstError()", x::firstError);
    }

    private void firstErrorOf(String text, int want) {
        MixedBlocks x = new MixedBlocks();
        type(x, text);
        checks.due("10: firstError() of " + text, x.firstError(), want);
        checks.due("10: and the buffer stays", x.clearBuffer(), text.length());
    }

    private void promise11SendAll() {
        MixedBlocks x = hearing(8);
        type(x, "68,38-38,69,4");
        checks.due("11: sendAll()", x.sendAll(), 4);
        checks.due("11: mask", x.receiver(0, 2), 0b1111);
        checks.due("11: sent", x.count(1), 4);
        checks.due("11: buffer", x.clearBuffer(), 0);
        for (String text : new String[] {"", "5-", "5,", "40-39", "40-3", "x", "5,,", "05", "1,2-1", "7-5", "10000"}) {
            type(x, text);
            refuses(x, "11: sendAll() of " + text, ARGUMENT, x::sendAll);
            checks.due("11: and the buffer stays", x.clearBuffer(), text.length());
        }
        sendsHundred("0-98,5", 100);
        sendsHundred("0-99", 100);
        sendsHundred("0-100", 100);
        sendsHundred("0-97,5", 99);
        sendsHundred("9000-9999,1,2-3", 100);
        sendsHundred("0-59,200-260,1", 100);
        inOrder();
        type(x, "70-73,0-1");
        int before = x.receiver(0, 1);
        isUndone(x, "11: sendAll() as one call", x::sendAll);
        checks.due("11: undone", x.receiver(0, 1), before);
        checks.due("11: but the buffer is still empty", x.clearBuffer(), 0);
    }

    private void sendsHundred(String text, int want) {
        MixedBlocks x = hearing(8);
        type(x, text);
        checks.due("11: sendAll() of " + text, x.sendAll(), want);
        checks.due("11: sent by " + text, x.count(1), want);
        checks.due("11: got by " + text, x.receiver(0, 4), want);
        checks.due("11: buffer behind " + text, x.clearBuffer(), 0);
    }

    /** The first hundred are sent, in the order of the text. */
    private void inOrder() {
        MixedBlocks x = hearing(8);
        MixedBlocks y = hearing(8);
        type(x, "50-52,69,57-58,41");
        x.sendAll();
        send(y, 50, 51, 52, 69, 57, 58, 41);
        for (int i = 0; i < 8; i++) {
            checks.due("11: waiting in order, " + i, x.waiting(0, i, 0), y.waiting(0, i, 0));
        }
        checks.due("11: the first one waits first", x.waiting(0, 0, 0), 0b10001);
    }

    private void promise12Undo() {
        MixedBlocks x = new MixedBlocks();
        for (int value = 1; value <= 8; value++) {
            x.write(0, value);
        }
        checks.due("12: saved states", x.count(5), 6);
        for (int left = 5; left >= 0; left--) {
            checks.due("12: undo()", x.undo(), left);
            checks.due("12: block(0)", x.block(0), left + 2);
        }
        refuses(x, "12: undo() of none", STATE, x::undo);
        MixedBlocks y = hearing(8);
        type(y, "68,69");
        y.sendAll();
        type(y, "7");
        y.send(M_35);
        y.undo();
        checks.due("12: sent behind undo()", y.count(1), 2);
        checks.due("12: got behind undo()", y.receiver(0, 4), 2);
        checks.due("12: the buffer stays", y.clearBuffer(), 1);
        y.undo();
        checks.due("12: sent behind undo() of sendAll", y.count(1), 0);
        checks.due("12: known behind undo() of sendAll", y.known(0, 0), NONE);
        y.send(M_0);
        checks.due("12: undo() of send behind undo()", y.undo(), 4);
        checks.due("12: use behind undo()", y.use(0), 1.0);
    }

    private void promise13Mix() {
        MixedBlocks x = filled(8);
        int[][] rows = {{0, 1, 0b1000000}, {1, 1, 0b10000000}, {2, 8, 0b11111111}, {7, 6, 0b1110111},
            {11, 5, 0b10001111}, {15, 4, 0b1001110}, {26, 3, 0b1000110}, {38, 2, 0b11}, {9999, 3, 0b1001100}};
        for (int[] row : rows) {
            int k = row[0];
            int mask = x.mix(k, 1);
            checks.due("13: mix(" + k + ", 0)", x.mix(k, 0), row[1]);
            checks.due("13: mix(" + k + ", 1)", mask, row[2]);
            int value = 0;
            for (int b = 0; b < 8; b++) {
                value ^= (mask >> b & 1) == 1 ? 101 * (b + 1) : 0;
            }
            checks.due("13: mix(" + k + ", 2)", x.mix(k, 2), value);
        }
        for (int wrong : new int[] {-1, 10000, Integer.MIN_VALUE, Integer.MAX_VALUE}) {
            refuses(x, "13: mix(" + wrong + ", 0)", ARGUMENT, () -> x.mix(wrong, 0));
        }
        for (int wrong : new int[] {-1, 3, Integer.MIN_VALUE, Integer.MAX_VALUE}) {
            refuses(x, "13: mix(0, " + wrong + ")", ARGUMENT, () -> x.mix(0, wrong));
        }
        leaves(x, "13: mix(9999, 2)", () -> x.mix(9999, 2));
        mixesOfOtherFiles();
    }

    private void mixesOfOtherFiles() {
        MixedBlocks x = new MixedBlocks();
        x.size(12);
        checks.due("13: all 12 blocks", x.mix(2, 1), 0b111111111111);
        checks.due("13: 8 of 12 blocks", x.mix(3, 0), 8);
        checks.due("13: 4 of 12 blocks", x.mix(15, 1), 0b110010100000);
        checks.due("13: 3 of 12 blocks", x.mix(29, 1), 0b101000001);
        x.size(3);
        checks.due("13: at most as many as the file", x.mix(2, 0), 3);
        checks.due("13: 2 of 3 blocks", x.mix(41, 1), 0b101);
        x.size(2);
        checks.due("13: at most 2", x.mix(26, 0), 2);
        checks.due("13: both", x.mix(26, 1), 0b11);
    }

    private void promise14Receiver() {
        MixedBlocks x = hearing(8);
        send(x, M_0, M_0, M_12, M_123, M_12);
        int[] want = {1, 1, 0b1, 3, 5, 1, 0, 0, 3};
        for (int what = 0; what <= 8; what++) {
            checks.due("14: receiver(0, " + what + ")", x.receiver(0, what), want[what]);
        }
        for (int what = 0; what <= 8; what++) {
            checks.due("14: receiver(1, " + what + ")", x.receiver(1, what), 0);
        }
        send(x, SINGLES);
        int[] done = {1, 8, 0b11111111, 0, 13, 5, 0, 1, 8};
        for (int what = 0; what <= 8; what++) {
            checks.due("14: done, receiver(0, " + what + ")", x.receiver(0, what), done[what]);
        }
        for (int wrong : new int[] {-1, 3, Integer.MIN_VALUE, Integer.MAX_VALUE}) {
            refuses(x, "14: receiver(" + wrong + ", 0)", INDEX, () -> x.receiver(wrong, 0));
            refuses(x, "14: receiver(" + wrong + ", 9)", INDEX, () -> x.receiver(wrong, 9));
        }
        for (int wrong : new int[] {-1, 9, Integer.MIN_VALUE, Integer.MAX_VALUE}) {
            refuses(x, "14: receiver(0, " + wrong + ")", ARGUMENT, () -> x.receiver(0, wrong));
        }
    }

    private void promise15Known() {
        MixedBlocks x = hearing(8);
        x.write(3, 0);
        send(x, M_0, M_3);
        checks.due("15: known(0, 0)", x.known(0, 0), 101);
        checks.due("15: known(0, 3), which is 0", x.known(0, 3), 0);
        checks.due("15: known(0, 7)", x.known(0, 7), NONE);
        checks.due("15: known(2, 0)", x.known(2, 0), NONE);
        for (int wrong : new int[] {-1, 3, Integer.MIN_VALUE, Integer.MAX_VALUE}) {
            refuses(x, "15: known(" + wrong + ", 0)", INDEX, () -> x.known(wrong, 0));
        }
        for (int wrong : new int[] {-1, 8, 12, Integer.MIN_VALUE, Integer.MAX_VALUE}) {
            refuses(x, "15: known(0, " + wrong + ")", INDEX, () -> x.known(0, wrong));
        }
        x.size(12);
        checks.due("15: known(0, 11)", x.known(0, 11), NONE);
    }

    private void promise16Waiting() {
        MixedBlocks x = hearing(8);
        send(x, M_123, M_35, M_01, M_3);
        int[][] rows = {{0b110, 202 ^ 303}, {0b11, 101 ^ 202}, {NONE, NONE}};
        for (int place = 0; place < 3; place++) {
            for (int what = 0; what < 2; what++) {
                checks.due("16: waiting(0, " + place + ", " + what + ")", x.waiting(0, place, what), rows[place][what]);
            }
        }
        for (int place : new int[] {23, 24, 25, Integer.MAX_VALUE}) {
            checks.due("16: waiting(0, " + place + ", 1)", x.waiting(0, place, 1), NONE);
        }
        checks.due("16: waiting(1, 0, 0)", x.waiting(1, 0, 0), NONE);
        for (int wrong : new int[] {-1, 3, Integer.MIN_VALUE, Integer.MAX_VALUE}) {
            refuses(x, "16: waiting(" + wrong + ", 0, 0)", INDEX, () -> x.waiting(wrong, 0, 0));
            refuses(x, "16: waiting(" + wrong + ", -1, 2)", INDEX, () -> x.waiting(wrong, -1, 2));
        }
        for (int wrong : new int[] {-1, Integer.MIN_VALUE}) {
            refuses(x, "16: waiting(0, " + wrong + ", 0)", ARGUMENT, () -> x.waiting(0, wrong, 0));
        }
        for (int wrong : new int[] {-1, 2, Integer.MIN_VALUE, Integer.MAX_VALUE}) {
            refuses(x, "16: waiting(0, 0, " + wrong + ")", ARGUMENT, () -> x.waiting(0, 0, wrong));
            refuses(x, "16: waiting(0, 24, " + wrong + ")", ARGUMENT, () -> x.waiting(0, 24, wrong));
        }
    }

    private void promise17Count() {
        MixedBlocks x = hearing(8);
        x.listen(2, true);
        send(x, SINGLES);
        x.listen(2, false);
        int[] want = {8, 8, 1, 2, 101 ^ 202 ^ 303 ^ 404 ^ 505 ^ 606 ^ 707 ^ 808, 6};
        for (int what = 0; what <= 5; what++) {
            checks.due("17: count(" + what + ")", x.count(what), want[what]);
        }
        x.size(3);
        checks.due("17: count(0) of 3", x.count(0), 3);
        checks.due("17: count(3) behind size", x.count(3), 0);
        checks.due("17: count(4) of 3", x.count(4), 101 ^ 202 ^ 303);
        x.undo();
        checks.due("17: count(5) behind undo()", x.count(5), 5);
        checks.due("17: count(3) behind undo()", x.count(3), 2);
        for (int wrong : new int[] {-1, 6, Integer.MIN_VALUE, Integer.MAX_VALUE}) {
            refuses(x, "17: count(" + wrong + ")", ARGUMENT, () -> x.count(wrong));
        }
    }

    private void promise18Block() {
        MixedBlocks x = filled(8);
        for (int b = 0; b < 8; b++) {
            checks.due("18: block(" + b + ")", x.block(b), 101 * (b + 1));
        }
        for (int wrong : new int[] {-1, 8, 12, Integer.MIN_VALUE, Integer.MAX_VALUE}) {
            refuses(x, "18: block(" + wrong + ")", INDEX, () -> x.block(wrong));
        }
        x.size(2);
        refuses(x, "18: block(2) of 2", INDEX, () -> x.block(2));
    }

    private void promise19IfGot() {
        MixedBlocks x = hearing(8);
        send(x, M_01, M_12, M_123);
        x.listen(0, false);
        checks.due("19: ifGot(0, M_0, 0), also if it does not listen", x.ifGot(0, M_0, 0), 4);
        checks.due("19: ifGot(0, M_0, 1)", x.ifGot(0, M_0, 1), 4);
        checks.due("19: ifGot(0, M_35, 0)", x.ifGot(0, M_35, 0), 0);
        checks.due("19: ifGot(0, M_35, 1)", x.ifGot(0, M_35, 1), 4);
        checks.due("19: ifGot(0, M_01_TOO, 1)", x.ifGot(0, M_01_TOO, 1), 3);
        checks.due("19: ifGot(1, M_0, 0)", x.ifGot(1, M_0, 0), 1);
        leaves(x, "19: ifGot(0, M_0, 0)", () -> x.ifGot(0, M_0, 0));
        leaves(x, "19: ifGot(0, M_35, 1)", () -> x.ifGot(0, M_35, 1));
        MixedBlocks y = hearing(8);
        for (int i = 0; i < 24; i++) {
            y.send(M_01);
        }
        checks.due("19: a mix that is lost adds nothing", y.ifGot(0, M_35, 1), 1);
        for (int wrong : new int[] {-1, 3, Integer.MIN_VALUE, Integer.MAX_VALUE}) {
            refuses(x, "19: ifGot(" + wrong + ", 0, 0)", INDEX, () -> x.ifGot(wrong, 0, 0));
            refuses(x, "19: ifGot(" + wrong + ", -1, 2)", INDEX, () -> x.ifGot(wrong, -1, 2));
        }
        for (int wrong : new int[] {-1, 10000, Integer.MIN_VALUE, Integer.MAX_VALUE}) {
            refuses(x, "19: ifGot(0, " + wrong + ", 0)", ARGUMENT, () -> x.ifGot(0, wrong, 0));
        }
        for (int wrong : new int[] {-1, 2, Integer.MIN_VALUE, Integer.MAX_VALUE}) {
            refuses(x, "19: ifGot(0, 0, " + wrong + ")", ARGUMENT, () -> x.ifGot(0, 0, wrong));
        }
    }

    private void promise20Helps() {
        MixedBlocks x = hearing(8);
        checks.due("20: helps(0, 0)", x.helps(0, 0), 0);
        checks.due("20: helps(0, 2)", x.helps(0, 2), 4);
        checks.due("20: helps(0, 5)", x.helps(0, 5), 61);
        checks.due("20: helps(1, 61)", x.helps(1, 61), 61);
        send(x, M_0);
        checks.due("20: with 0 known, {0, 1} helps", x.helps(0, 5), M_01);
        checks.due("20: {0} helps no more", x.helps(0, M_0), 70);
        for (int k = 1; k < 7; k++) {
            send(x, SINGLES[k]);
        }
        checks.due("20: all but the block 7", x.helps(0, 1), 1);
        checks.due("20: all but the block 7, from 2 on", x.helps(0, 2), 2);
        leaves(x, "20: helps(0, 2)", () -> x.helps(0, 2));
        send(x, 1);
        checks.due("20: none helps who is done", x.helps(0, 0), NONE);
        for (int wrong : new int[] {-1, 3, Integer.MIN_VALUE, Integer.MAX_VALUE}) {
            refuses(x, "20: helps(" + wrong + ", 0)", INDEX, () -> x.helps(wrong, 0));
            refuses(x, "20: helps(" + wrong + ", -1)", INDEX, () -> x.helps(wrong, -1));
        }
        for (int wrong : new int[] {-1, 10000, Integer.MIN_VALUE, Integer.MAX_VALUE}) {
            refuses(x, "20: helps(0, " + wrong + ")", ARGUMENT, () -> x.helps(0, wrong));
        }
    }

    private void promise21Needs() {
        MixedBlocks x = filled(8);
        checks.due("21: needs(0, 0, false)", x.needs(0, 0, false), 32);
        checks.due("21: needs(0, 0, true)", x.needs(0, 0, true), 20);
        checks.due("21: needs(0, 10, false)", x.needs(0, 10, false), 56);
        needsAsSent(0);
        needsAsSent(9899);
        needsAsSent(4321);
        leaves(x, "21: needs(0, 9899, true)", () -> x.needs(0, 9899, true));
        x.listen(0, true);
        send(x, SINGLES);
        checks.due("21: who is done needs none", x.needs(0, 0, false), 0);
        checks.due("21: also with eliminating", x.needs(0, 0, true), 0);
        for (int wrong : new int[] {-1, 3, Integer.MIN_VALUE, Integer.MAX_VALUE}) {
            refuses(x, "21: needs(" + wrong + ", 0, true)", INDEX, () -> x.needs(wrong, 0, true));
            refuses(x, "21: needs(" + wrong + ", -1, true)", INDEX, () -> x.needs(wrong, -1, true));
        }
        for (int wrong : new int[] {-1, 9900, 10000, Integer.MIN_VALUE, Integer.MAX_VALUE}) {
            refuses(x, "21: needs(0, " + wrong + ", false)", ARGUMENT, () -> x.needs(0, wrong, false));
        }
        needsElimination();
    }

    /** What needs tells is what comes when the mixes are sent. */
    private void needsAsSent(int from) {
        for (int way = 0; way < 2; way++) {
            boolean eliminates = way == 1;
            MixedBlocks x = hearing(8);
            int want = x.needs(0, from, eliminates);
            int sent = 0;
            while (x.receiver(0, 7) == 0 && sent < 100) {
                x.send(from + sent);
                sent++;
                if (eliminates) {
                    x.eliminate(0);
                }
            }
            int got = x.receiver(0, 7) == 1 ? sent : NONE;
            checks.due("21: needs(0, " + from + ", " + eliminates + ") as sent", want, got);
        }
    }

    /** Elimination comes behind a mix, never ahead of the first one. */
    private void needsElimination() {
        MixedBlocks x = new MixedBlocks();
        x.listen(0, true);
        int k = 0;
        while (x.ifEliminated(0) < 8 && k < 200) {
            if (x.mix(k, 0) > 1) {
                x.send(k);
            }
            k++;
        }
        checks.due("21: elimination would find all", x.ifEliminated(0), 8);
        checks.due("21: it comes behind the first mix", x.needs(0, M_ALL, true), 1);
    }

    private void promise22IfEliminated() {
        MixedBlocks x = hearing(8);
        checks.due("22: ifEliminated(0) of nothing", x.ifEliminated(0), 0);
        send(x, M_12, M_123, M_35);
        checks.due("22: ifEliminated(0)", x.ifEliminated(0), 2);
        checks.due("22: ifEliminated(1)", x.ifEliminated(1), 0);
        leaves(x, "22: ifEliminated(0)", () -> x.ifEliminated(0));
        x.eliminate(0);
        checks.due("22: ifEliminated(0) behind eliminate(0)", x.ifEliminated(0), 0);
        for (int wrong : new int[] {-1, 3, Integer.MIN_VALUE, Integer.MAX_VALUE}) {
            refuses(x, "22: ifEliminated(" + wrong + ")", INDEX, () -> x.ifEliminated(wrong));
        }
    }

    private void promise23Use() {
        MixedBlocks x = hearing(8);
        checks.due("23: use(0) of nothing", x.use(0), 1.0);
        send(x, M_0);
        checks.due("23: use(0) of what helped", x.use(0), 1.0);
        send(x, M_0, M_0);
        checks.due("23: use(0) with two that told nothing", x.use(0), 1.0 / 3.0);
        send(x, M_12);
        checks.due("23: use(0) with one that waits", x.use(0), 0.5);
        x.forget(0);
        checks.due("23: use(0) goes on when all is forgotten", x.use(0), 0.5);
        for (int i = 0; i < 25; i++) {
            x.send(M_12);
        }
        checks.due("23: use(0) with one lost", x.use(0), 26.0 / 29.0);
        leaves(x, "23: use(0)", () -> x.use(0));
        MixedBlocks y = hearing(8);
        send(y, SINGLES);
        y.write(0, 5);
        checks.due("23: use(1)", y.use(1), 1.0);
        for (int wrong : new int[] {-1, 3, Integer.MIN_VALUE, Integer.MAX_VALUE}) {
            refuses(x, "23: use(" + wrong + ")", INDEX, () -> x.use(wrong));
        }
    }

    private void promise24Digest() {
        digestByHand(MixedBlocks::new, "");
        digestByHand(() -> typedOnly("~1,-"), "~1,-");
        digestByHand(() -> typedOnly("2-9,68-70"), "2-9,68-70");
        for (int sent = 0; sent <= 100; sent += 4) {
            int behind = sent;
            digestByHand(() -> sentTo12(behind), "");
        }
        MixedBlocks x = sentTo12(50);
        leaves(x, "24: digest()", x::digest);
    }

    private static MixedBlocks typedOnly(String text) {
        MixedBlocks x = new MixedBlocks();
        type(x, text);
        return x;
    }

    /** Receiver 1 has heard 5 mixes less. */
    private static MixedBlocks sentTo12(int mixes) {
        MixedBlocks x = filled(12);
        x.listen(0, true);
        x.write(11, 65535);
        for (int i = 0; i < mixes; i++) {
            if (i == 5) {
                x.listen(1, true);
            }
            x.send(9000 + i);
        }
        return x;
    }

    private void digestByHand(Maker state, String buffer) {
        checks.due("24: digest() with the buffer " + buffer, state.made().digest(), digestOf(state.made(), buffer));
    }
}
