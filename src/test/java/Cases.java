import java.lang.reflect.InvocationTargetException;
import java.lang.reflect.Method;
import java.util.ArrayList;
import java.util.Comparator;
import java.util.List;

/** What the tests by sentence have in common: objects in some state, and what is asked of each call. */
abstract class Cases {
    static final Class<IndexOutOfBoundsException> INDEX = IndexOutOfBoundsException.class;
    static final Class<IllegalArgumentException> ARGUMENT = IllegalArgumentException.class;
    static final Class<IllegalStateException> STATE = IllegalStateException.class;
    static final int NONE = MixedBlocks.NONE;

    // the numbers of a receiver
    static final int LISTENS = 0;
    static final int KNOWS = 1;
    static final int MASK = 2;
    static final int WAITS = 3;
    static final int GOT = 4;
    static final int NOTHING = 5;
    static final int LOST = 6;
    static final int DONE = 7;
    static final int RANK = 8;

    // the numbers that count answers
    static final int BLOCKS = 0;
    static final int SENT = 1;
    static final int LISTENING = 2;
    static final int ALL_DONE = 3;
    static final int TOGETHER = 4;
    static final int SAVED = 5;

    private static final int[] DEGREES = {1, 1, 2, 2, 2, 2, 2, 3, 3, 3, 4, 4, 5, 6, 8, 12};

    final Checks checks = new Checks();

    /** Makes an object in some state; each time another one in the same state. */
    interface Maker {
        MixedBlocks made();
    }

    /** A call of an object. */
    interface On {
        Object answer(MixedBlocks x);
    }

    /** A call of an object with a number that is out of range. */
    interface OnNumber {
        Object answer(MixedBlocks x, int number);
    }

    /** Runs all tests that say what they hold; a test that checks nothing fails. */
    final void runAll() {
        for (Method test : testsOf(getClass())) {
            checks.begin(test.getName());
            int before = checks.all();
            try {
                test.invoke(this);
            } catch (InvocationTargetException e) {
                checks.due("the test", "throws " + e.getCause(), "nothing thrown");
            } catch (IllegalAccessException e) {
                throw new IllegalStateException(e);
            }
            if (checks.all() == before) {
                checks.due("the test", "checks nothing", "checks something");
            }
        }
        checks.end();
    }

    static List<Method> testsOf(Class<?> tests) {
        List<Method> all = new ArrayList<>();
        for (Method method : tests.getDeclaredMethods()) {
            if (method.isAnnotationPresent(Holds.class)) {
                all.add(method);
            }
        }
        all.sort(Comparator.comparing(Method::getName));
        return all;
    }

    // ---- mixes, as the document tells them

    /** The blocks of the mix k of a file of n blocks, as a mask. */
    static int maskOf(int n, int k) {
        long row = (k * 7919L + 17) % 30269;
        int degree = Math.min(DEGREES[(int) (row % 16)], n);
        int mask = 0;
        for (int i = 0; i < degree; i++) {
            row = (row * 171 + 11) % 30269;
            int block = (int) (row % n);
            while ((mask >> block & 1) == 1) {
                block = block == n - 1 ? 0 : block + 1;
            }
            mask |= 1 << block;
        }
        return mask;
    }

    static int mask(int... blocks) {
        int mask = 0;
        for (int b : blocks) {
            mask |= 1 << b;
        }
        return mask;
    }

    /** The least mix of a file of n blocks that has just these blocks. */
    static int numberOf(int n, int... blocks) {
        for (int k = 0; k <= 9999; k++) {
            if (maskOf(n, k) == mask(blocks)) {
                return k;
            }
        }
        throw new IllegalStateException("no mix has just these blocks");
    }

    /** The value of the block b in a file that is filled. */
    static int valueOf(int b) {
        return 101 * (b + 1);
    }

    static int valueOfAll(int... blocks) {
        int value = 0;
        for (int b : blocks) {
            value ^= valueOf(b);
        }
        return value;
    }

    // ---- objects in some state

    /** A file of n blocks, each with another value. */
    static MixedBlocks filled(int n) {
        MixedBlocks x = new MixedBlocks();
        if (n != 8) {
            x.size(n);
        }
        for (int b = 0; b < n; b++) {
            x.write(b, valueOf(b));
        }
        return x;
    }

    /** As filled, and receiver 0 listens. */
    static MixedBlocks hearing(int n) {
        MixedBlocks x = filled(n);
        x.listen(0, true);
        return x;
    }

    /** As filled, and all receivers listen. */
    static MixedBlocks allHearing(int n) {
        MixedBlocks x = hearing(n);
        x.listen(1, true);
        x.listen(2, true);
        return x;
    }

    /** As hearing, and 24 mixes wait, {0, 1} and {1, 2} by turns. */
    static MixedBlocks full(int n) {
        MixedBlocks x = hearing(n);
        for (int i = 0; i < 12; i++) {
            mixes(x, new int[][] {{0, 1}, {1, 2}});
        }
        return x;
    }

    /** Who listens knows all blocks. */
    static MixedBlocks done(int n) {
        MixedBlocks x = hearing(n);
        for (int b = 0; b < n; b++) {
            mix(x, b);
        }
        return x;
    }

    /** Known, waiting and lost mixes, those that told nothing, a buffer that is no text, and 6 saved states. */
    static MixedBlocks busy() {
        MixedBlocks x = full(8);
        mixes(x, new int[][] {{3, 5}, {4}, {4}});
        x.listen(1, true);
        mixes(x, new int[][] {{6}, {6, 7}, {3, 5}});
        x.listen(1, false);
        type(x, "12-1,");
        return x;
    }

    /** As busy, but with 4 saved states, so that none is dropped by one more. */
    static MixedBlocks young() {
        MixedBlocks x = new MixedBlocks();
        x.write(0, 65535);
        x.write(5, 4711);
        x.listen(0, true);
        int two = numberOf(8, 0, 5);
        int three = numberOf(8, 5, 6, 7);
        int one = numberOf(8, 1);
        StringBuilder text = new StringBuilder();
        text.append(two).append(',').append(three).append(',').append(one).append(',').append(one);
        type(x, text.toString());
        x.sendAll();
        return x;
    }

    /** Sends the least mix that has just these blocks. */
    static int mix(MixedBlocks x, int... blocks) {
        return x.send(numberOf(x.count(BLOCKS), blocks));
    }

    static void mixes(MixedBlocks x, int[][] rows) {
        for (int[] blocks : rows) {
            mix(x, blocks);
        }
    }

    static void type(MixedBlocks x, String text) {
        for (char c : text.toCharArray()) {
            x.append(c);
        }
    }

    static MixedBlocks typed(String text) {
        MixedBlocks x = hearing(8);
        type(x, text);
        return x;
    }

    // ---- what is asked of calls

    final void due(String call, Object got, Object want) {
        checks.due(call, got, want);
    }

    /** Both are in the same state, in all states that are saved too. */
    final void same(String call, MixedBlocks x, MixedBlocks y) {
        due("digest() behind " + call, x.digest(), y.digest());
        for (int left = y.count(SAVED); left > 0 && x.count(SAVED) > 0; left--) {
            due("undo() behind " + call, x.undo(), y.undo());
            due("digest() behind undo() behind " + call, x.digest(), y.digest());
        }
    }

    /** The call throws just this, and changes nothing. */
    final void refused(Maker state, String call, Class<? extends RuntimeException> kind, On tried) {
        MixedBlocks x = state.made();
        checks.throwsJust(call, kind, () -> tried.answer(x));
        same(call, x, state.made());
    }

    /** The call refuses the number below the least one that is allowed, and the least int. */
    final void refusedBelow(int least, String call, Class<? extends RuntimeException> kind, OnNumber tried) {
        refusedNumber(least - 1, call, kind, tried);
        refusedNumber(Integer.MIN_VALUE, call, kind, tried);
    }

    /** The call refuses the number above the greatest one that is allowed, and the greatest int. */
    final void refusedAbove(int most, String call, Class<? extends RuntimeException> kind, OnNumber tried) {
        refusedNumber(most + 1, call, kind, tried);
        refusedNumber(Integer.MAX_VALUE, call, kind, tried);
    }

    private void refusedNumber(int number, String call, Class<? extends RuntimeException> kind, OnNumber tried) {
        refused(Cases::busy, call + " with " + number, kind, x -> tried.answer(x, number));
    }

    /** The call answers, changes nothing, and saves nothing. */
    final void looks(Maker state, String call, On tried) {
        MixedBlocks x = state.made();
        tried.answer(x);
        same(call, x, state.made());
    }

    /** The call saves one state, and undo brings it back. */
    final void undone(Maker state, String call, On tried) {
        MixedBlocks x = state.made();
        int saved = x.count(SAVED);
        tried.answer(x);
        due("saved states behind " + call, x.count(SAVED), saved + 1);
        due("undo() behind " + call, x.undo(), saved);
        same(call + " and undo()", x, state.made());
    }

    /** The numbers 0 to 8 of a receiver are these. */
    final void numbers(MixedBlocks x, int receiver, int... want) {
        for (int what = 0; what < want.length; what++) {
            due("receiver(" + receiver + ", " + what + ")", x.receiver(receiver, what), want[what]);
        }
    }

    // ---- the digest, value by value

    static long digestOf(MixedBlocks x, String buffer) {
        long hash = 3253;
        for (int what = 0; what <= 5; what++) {
            hash = 31 * hash + x.count(what);
        }
        for (int b = 0; b < x.count(BLOCKS); b++) {
            hash = 31 * hash + x.block(b);
        }
        for (int r = 0; r < 3; r++) {
            hash = receiverHash(x, r, hash);
        }
        hash = 31 * hash + buffer.length();
        for (char c : buffer.toCharArray()) {
            hash = 31 * hash + c;
        }
        return hash;
    }

    static long receiverHash(MixedBlocks x, int r, long start) {
        long hash = start;
        for (int what = 0; what <= 8; what++) {
            hash = 31 * hash + x.receiver(r, what);
        }
        for (int b = 0; b < x.count(BLOCKS); b++) {
            hash = 31 * hash + x.known(r, b);
        }
        for (int i = 0; i < x.receiver(r, WAITS); i++) {
            hash = 31 * hash + x.waiting(r, i, 0);
            hash = 31 * hash + x.waiting(r, i, 1);
        }
        hash = 31 * hash + x.ifGot(r, 100, 0);
        hash = 31 * hash + x.ifGot(r, 100, 1);
        hash = 31 * hash + x.helps(r, 0);
        hash = 31 * hash + x.needs(r, 5, false);
        hash = 31 * hash + x.needs(r, 5, true);
        hash = 31 * hash + x.ifEliminated(r);
        return 31 * hash + Double.doubleToLongBits(x.use(r));
    }
}
