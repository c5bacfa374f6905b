import java.util.Random;

/**
 * Compares the class with the slow model, over runs of 512 calls, drawn with fixed seeds, digest the last one of each;
 * and over each short text whose characters but the last one are no errors.
 */
public final class ModelTests {
    private static final int RUNS = 100;
    private static final int CALLS = 511;
    /** Long enough for a first number, "-", all lengths of a second one, and a character behind it. */
    private static final int SHORT_TEXT = 6;
    private static final String SIGNS = "0159-,x";

    private final Checks checks = new Checks();
    private Random random;
    private MixedBlocks x;
    private Model m;

    public static void main(String[] args) {
        ModelTests tests = new ModelTests();
        for (int run = 0; run < RUNS && tests.checks.wrong() == 0; run++) {
            tests.run(run);
        }
        tests.shortTexts("");
        tests.checks.end();
    }

    private void run(int seed) {
        random = new Random(seed);
        x = new MixedBlocks();
        m = new Model();
        int changes = seed % 5;
        for (int i = 0; i < CALLS && checks.wrong() == 0; i++) {
            compareOne("run " + seed + ", call " + i + ": ", changes);
        }
        compare("run " + seed + ": digest()", () -> x.digest(), () -> m.digest());
    }

    private void shortTexts(String text) {
        x = new MixedBlocks();
        m = new Model();
        for (char sign : text.toCharArray()) {
            x.append(sign);
            m.append(sign);
        }
        boolean right = m.firstError() == text.length();
        compare(text + ": firstError()", () -> x.firstError(), () -> m.firstError());
        compare(text + ": sendAll()", () -> x.sendAll(), () -> m.sendAll());
        for (int i = 0; i < SIGNS.length() && right && text.length() < SHORT_TEXT; i++) {
            shortTexts(text + SIGNS.charAt(i));
        }
    }

    private void compare(String call, Checks.Call got, Checks.Call want) {
        checks.due(call, Checks.answerOf(got), Checks.answerOf(want));
    }

    private int receiver() {
        return random.nextInt(40) == 0 ? random.nextInt(2) * 4 - 1 : random.nextInt(3);
    }

    private int block() {
        return random.nextInt(20) == 0 ? random.nextInt(16) - 2 : random.nextInt(m.now.file.length);
    }

    private int mix() {
        switch (random.nextInt(20)) {
            case 0:
                return -1 - random.nextInt(3);
            case 1:
                return 9998 + random.nextInt(4);
            case 2:
                return 9890 + random.nextInt(20);
            default:
                return random.nextInt(10000);
        }
    }

    private int what(int choices) {
        return random.nextInt(30) == 0 ? random.nextInt(2) * (choices + 1) - 1 : random.nextInt(choices);
    }

    private void compareOne(String at, int changes) {
        int kind = random.nextInt(100);
        if (kind < changes) {
            change(at);
        } else if (kind < 45) {
            hear(at);
        } else if (kind < 70) {
            text(at);
        } else if (kind < 72) {
            compare(at + "undo()", () -> x.undo(), () -> m.undo());
        } else if (kind < 85) {
            look(at);
        } else {
            guess(at);
        }
    }

    private void change(String at) {
        int b = block();
        int v = random.nextInt(8) == 0 ? random.nextInt(2) * 65537 - 1 : random.nextInt(65536);
        int n = random.nextInt(8) == 0 ? random.nextInt(16) : 2 + random.nextInt(11);
        if (random.nextInt(3) == 0) {
            compare(at + "size(" + n + ")", () -> x.size(n), () -> m.size(n));
        } else {
            compare(at + "write(" + b + ", " + v + ")", () -> x.write(b, v), () -> m.write(b, v));
        }
    }

    private void hear(String at) {
        int r = receiver();
        int k = mix();
        boolean on = random.nextInt(4) != 0;
        switch (random.nextInt(30)) {
            case 0:
            case 1:
                compare(at + "listen(" + r + ", " + on + ")", () -> x.listen(r, on), () -> m.listen(r, on));
                break;
            case 2:
                compare(at + "forget(" + r + ")", () -> x.forget(r), () -> m.forget(r));
                break;
            case 3:
                compare(at + "eliminate(" + r + ")", () -> x.eliminate(r), () -> m.eliminate(r));
                break;
            default:
                compare(at + "send(" + k + ")", () -> x.send(k), () -> m.send(k));
        }
    }

    private void text(String at) {
        int kind = random.nextInt(40);
        if (kind == 0) {
            compare(at + "clearBuffer()", () -> x.clearBuffer(), () -> m.clearBuffer());
        } else if (kind < 8) {
            compare(at + "firstError()", () -> x.firstError(), () -> m.firstError());
        } else if (kind < 10) {
            compare(at + "sendAll()", () -> x.sendAll(), () -> m.sendAll());
        } else {
            int code = code();
            compare(at + "append(" + code + ")", () -> x.append(code), () -> m.append(code));
        }
    }

    private int code() {
        int kind = random.nextInt(200);
        if (kind == 0) {
            return 32 + random.nextInt(2) * 95;
        }
        if (kind == 1) {
            return 33 + random.nextInt(94);
        }
        // mostly a character that is no error, so that long texts come about
        String signs = "0123456789--,,,";
        for (int tries = 0; tries < 20; tries++) {
            char sign = signs.charAt(random.nextInt(signs.length()));
            m.buffer.append(sign);
            boolean right = m.firstError() == m.buffer.length();
            m.buffer.setLength(m.buffer.length() - 1);
            if (right) {
                return sign;
            }
        }
        return ',';
    }

    private void look(String at) {
        int r = receiver();
        int k = mix();
        int b = block();
        int place = random.nextInt(27) - 1;
        int what = what(9);
        switch (random.nextInt(6)) {
            case 0:
                compare(at + "mix(" + k + ", " + what + ")", () -> x.mix(k, what), () -> m.mix(k, what));
                break;
            case 1:
                compare(at + "receiver(" + r + ", " + what + ")", () -> x.receiver(r, what), () -> m.receiver(r, what));
                break;
            case 2:
                compare(at + "known(" + r + ", " + b + ")", () -> x.known(r, b), () -> m.known(r, b));
                break;
            case 3:
                int side = what(2);
                compare(at + "waiting(" + r + ", " + place + ", " + side + ")", () -> x.waiting(r, place, side),
                    () -> m.waiting(r, place, side));
                break;
            case 4:
                compare(at + "count(" + what + ")", () -> x.count(what), () -> m.count(what));
                break;
            default:
                compare(at + "block(" + b + ")", () -> x.block(b), () -> m.block(b));
        }
    }

    private void guess(String at) {
        int r = receiver();
        int k = mix();
        int what = what(2);
        boolean on = random.nextBoolean();
        switch (random.nextInt(12)) {
            case 0:
                compare(at + "digest()", () -> x.digest(), () -> m.digest());
                break;
            case 1:
            case 2:
                compare(at + "use(" + r + ")", () -> x.use(r), () -> m.use(r));
                break;
            case 3:
            case 4:
                compare(at + "ifEliminated(" + r + ")", () -> x.ifEliminated(r), () -> m.ifEliminated(r));
                break;
            case 5:
                compare(at + "needs(" + r + ", " + k + ", " + on + ")", () -> x.needs(r, k, on),
                    () -> m.needs(r, k, on));
                break;
            case 6:
            case 7:
                compare(at + "helps(" + r + ", " + k + ")", () -> x.helps(r, k), () -> m.helps(r, k));
                break;
            default:
                compare(at + "ifGot(" + r + ", " + k + ", " + what + ")", () -> x.ifGot(r, k, what),
                    () -> m.ifGot(r, k, what));
        }
    }
}
