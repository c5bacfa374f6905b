import java.util.ArrayDeque;
import java.util.ArrayList;
import java.util.HashMap;
import java.util.List;
import java.util.Map;
import java.util.TreeMap;
import java.util.TreeSet;

/**
 * The document once more, slowly and with the whole Java library, so that the class can be compared with it.
 * It shares no way of working with the class: sets instead of bits, all sums of mixes instead of elimination,
 * and texts that are tried out instead of read.
 */
final class Model {
    private static final int[] TABLE = {1, 1, 2, 2, 2, 2, 2, 3, 3, 3, 4, 4, 5, 6, 8, 12};

    /** Blocks that are left, and the value that is left. */
    static final class Mix {
        final TreeSet<Integer> blocks = new TreeSet<>();
        int value;

        Mix copy() {
            Mix copy = new Mix();
            copy.blocks.addAll(blocks);
            copy.value = value;
            return copy;
        }

        void takeOut(int block, int blockValue) {
            if (blocks.remove(block)) {
                value ^= blockValue;
            }
        }

        int mask() {
            int mask = 0;
            for (int b : blocks) {
                mask += 1 << b;
            }
            return mask;
        }
    }

    static final class Receiver {
        boolean listens;
        TreeMap<Integer, Integer> known = new TreeMap<>();
        List<Mix> waiting = new ArrayList<>();
        int got;
        int nothing;
        int lost;

        Receiver copy() {
            Receiver copy = new Receiver();
            copy.listens = listens;
            copy.known.putAll(known);
            for (Mix mix : waiting) {
                copy.waiting.add(mix.copy());
            }
            copy.got = got;
            copy.nothing = nothing;
            copy.lost = lost;
            return copy;
        }

        void forget() {
            known.clear();
            waiting.clear();
        }

        int get(Mix sent) {
            int before = known.size();
            Mix mix = sent.copy();
            got++;
            for (Map.Entry<Integer, Integer> entry : known.entrySet()) {
                mix.takeOut(entry.getKey(), entry.getValue());
            }
            if (mix.blocks.isEmpty()) {
                nothing++;
            } else if (mix.blocks.size() == 1) {
                becomeKnown(mix.blocks.first(), mix.value);
            } else if (waiting.size() < 24) {
                waiting.add(mix);
            } else {
                lost++;
            }
            return known.size() - before;
        }

        private void becomeKnown(int block, int value) {
            known.put(block, value);
            for (Mix mix : waiting) {
                mix.takeOut(block, value);
            }
            for (int i = 0; i < waiting.size(); i++) {
                Mix mix = waiting.get(i);
                if (mix.blocks.size() < 2) {
                    waiting.remove(i);
                    if (mix.blocks.isEmpty()) {
                        nothing++;
                    } else {
                        becomeKnown(mix.blocks.first(), mix.value);
                    }
                    i = -1;
                }
            }
        }

        /** The XOR of each set of waiting mixes, by the blocks that it leaves. */
        private Map<Integer, Integer> sums() {
            Map<Integer, Integer> sums = new HashMap<>();
            sums.put(0, 0);
            for (Mix mix : waiting) {
                Map<Integer, Integer> more = new HashMap<>(sums);
                for (Map.Entry<Integer, Integer> sum : sums.entrySet()) {
                    more.put(sum.getKey() ^ mix.mask(), sum.getValue() ^ mix.value);
                }
                sums = more;
            }
            return sums;
        }

        int eliminate() {
            int before = known.size();
            Map<Integer, Integer> sums = sums();
            for (int b = 0; b < 12; b++) {
                Integer value = sums.get(1 << b);
                if (value != null && !known.containsKey(b)) {
                    becomeKnown(b, value);
                }
            }
            return known.size() - before;
        }

        int rank() {
            int all = sums().size();
            int rank = known.size();
            while (all > 1) {
                all /= 2;
                rank++;
            }
            return rank;
        }

        double use() {
            return got == 0 ? 1.0 : (double) (got - nothing - lost) / got;
        }
    }

    static final class State {
        int[] file = new int[8];
        int sent;
        Receiver[] receivers = {new Receiver(), new Receiver(), new Receiver()};

        State copy() {
            State copy = new State();
            copy.file = file.clone();
            copy.sent = sent;
            for (int i = 0; i < 3; i++) {
                copy.receivers[i] = receivers[i].copy();
            }
            return copy;
        }
    }

    State now = new State();
    ArrayDeque<State> saved = new ArrayDeque<>();
    StringBuilder buffer = new StringBuilder();

    private void save() {
        saved.addLast(now.copy());
        if (saved.size() > 6) {
            saved.removeFirst();
        }
    }

    private Receiver one(int receiver) {
        if (receiver < 0 || receiver > 2) {
            throw new IndexOutOfBoundsException();
        }
        return now.receivers[receiver];
    }

    private static void argument(boolean right) {
        if (!right) {
            throw new IllegalArgumentException();
        }
    }

    private void index(int block) {
        if (block < 0 || block >= now.file.length) {
            throw new IndexOutOfBoundsException();
        }
    }

    private void allForget() {
        for (Receiver receiver : now.receivers) {
            receiver.forget();
        }
    }

    int size(int blocks) {
        argument(blocks >= 2 && blocks <= 12);
        save();
        int previous = now.file.length;
        now.file = java.util.Arrays.copyOf(now.file, blocks);
        allForget();
        return previous;
    }

    int write(int block, int value) {
        index(block);
        argument(value >= 0 && value <= 65535);
        save();
        int previous = now.file[block];
        now.file[block] = value;
        allForget();
        return previous;
    }

    int listen(int receiver, boolean listens) {
        one(receiver);
        save();
        int previous = one(receiver).listens ? 1 : 0;
        one(receiver).listens = listens;
        return previous;
    }

    int forget(int receiver) {
        one(receiver);
        save();
        int previous = one(receiver).known.size();
        one(receiver).forget();
        return previous;
    }

    private int sendOne(int mix) {
        int found = 0;
        now.sent++;
        for (Receiver receiver : now.receivers) {
            if (receiver.listens) {
                found += receiver.get(mixOf(mix));
            }
        }
        return found;
    }

    int send(int mix) {
        argument(mix >= 0 && mix <= 9999);
        save();
        return sendOne(mix);
    }

    int eliminate(int receiver) {
        one(receiver);
        save();
        return one(receiver).eliminate();
    }

    int append(int code) {
        argument(code >= 33 && code <= 126);
        if (buffer.length() == 60) {
            throw new IllegalStateException();
        }
        buffer.append((char) code);
        return buffer.length();
    }

    int clearBuffer() {
        int previous = buffer.length();
        buffer.setLength(0);
        return previous;
    }

    int firstError() {
        for (int i = 0; i < buffer.length(); i++) {
            if (!begins(buffer.substring(0, i + 1))) {
                return i;
            }
        }
        return buffer.length();
    }

    private static boolean isNumber(String text) {
        return text.matches("0|[1-9][0-9]{0,3}");
    }

    private static boolean isPart(String text) {
        int dash = text.indexOf('-');
        if (dash < 0) {
            return isNumber(text);
        }
        String from = text.substring(0, dash);
        String to = text.substring(dash + 1);
        return isNumber(from) && isNumber(to) && Integer.parseInt(from) <= Integer.parseInt(to);
    }

    private static boolean beginsPart(String text) {
        int dash = text.indexOf('-');
        String ahead = dash < 0 ? "" : text.substring(0, dash);
        String behind = text.substring(dash + 1);
        if (dash >= 0 && !isNumber(ahead)) {
            return false;
        }
        for (int n = dash < 0 ? 0 : Integer.parseInt(ahead); n <= 9999; n++) {
            if (Integer.toString(n).startsWith(behind)) {
                return true;
            }
        }
        return false;
    }

    private static boolean begins(String text) {
        String[] parts = text.split(",", -1);
        for (int i = 0; i < parts.length - 1; i++) {
            if (!isPart(parts[i])) {
                return false;
            }
        }
        return beginsPart(parts[parts.length - 1]);
    }

    int sendAll() {
        List<Integer> mixes = new ArrayList<>();
        for (String part : buffer.toString().split(",", -1)) {
            argument(isPart(part));
            String[] ends = part.split("-");
            for (int k = Integer.parseInt(ends[0]); k <= Integer.parseInt(ends[ends.length - 1]); k++) {
                mixes.add(k);
            }
        }
        save();
        int sent = Math.min(100, mixes.size());
        for (int mix : mixes.subList(0, sent)) {
            sendOne(mix);
        }
        buffer.setLength(0);
        return sent;
    }

    int undo() {
        if (saved.isEmpty()) {
            throw new IllegalStateException();
        }
        now = saved.removeLast();
        return saved.size();
    }

    private Mix mixOf(int k) {
        int blocks = now.file.length;
        int row = (k * 7919 + 17) % 30269;
        int degree = Math.min(TABLE[row % 16], blocks);
        Mix mix = new Mix();
        while (mix.blocks.size() < degree) {
            row = (row * 171 + 11) % 30269;
            int block = row % blocks;
            while (mix.blocks.contains(block)) {
                block = (block + 1) % blocks;
            }
            mix.blocks.add(block);
            mix.value ^= now.file[block];
        }
        return mix;
    }

    int mix(int mix, int what) {
        argument(mix >= 0 && mix <= 9999 && what >= 0 && what <= 2);
        Mix whole = mixOf(mix);
        return what == 0 ? whole.blocks.size() : what == 1 ? whole.mask() : whole.value;
    }

    private int done(Receiver receiver) {
        return receiver.known.size() == now.file.length ? 1 : 0;
    }

    int receiver(int receiver, int what) {
        Receiver one = one(receiver);
        argument(what >= 0 && what <= 8);
        int mask = 0;
        for (int b : one.known.keySet()) {
            mask += 1 << b;
        }
        int listens = one.listens ? 1 : 0;
        int[] numbers = {listens, one.known.size(), mask, one.waiting.size(), one.got, one.nothing, one.lost,
            done(one), one.rank()};
        return numbers[what];
    }

    int known(int receiver, int block) {
        Receiver one = one(receiver);
        index(block);
        return one.known.getOrDefault(block, -1);
    }

    int waiting(int receiver, int place, int what) {
        Receiver one = one(receiver);
        argument(place >= 0 && what >= 0 && what <= 1);
        if (place >= one.waiting.size()) {
            return -1;
        }
        return what == 0 ? one.waiting.get(place).mask() : one.waiting.get(place).value;
    }

    int count(int what) {
        argument(what >= 0 && what <= 5);
        int[] counts = {now.file.length, now.sent, 0, 0, 0, saved.size()};
        for (Receiver receiver : now.receivers) {
            counts[2] += receiver.listens ? 1 : 0;
            counts[3] += done(receiver);
        }
        for (int value : now.file) {
            counts[4] ^= value;
        }
        return counts[what];
    }

    int block(int block) {
        index(block);
        return now.file[block];
    }

    int ifGot(int receiver, int mix, int what) {
        Receiver trial = one(receiver).copy();
        argument(mix >= 0 && mix <= 9999 && what >= 0 && what <= 1);
        int found = trial.get(mixOf(mix));
        return what == 0 ? found : trial.rank();
    }

    int helps(int receiver, int from) {
        one(receiver);
        argument(from >= 0 && from <= 9999);
        for (int mix = from; mix <= Math.min(9999, from + 99); mix++) {
            if (ifGot(receiver, mix, 0) > 0) {
                return mix;
            }
        }
        return -1;
    }

    int needs(int receiver, int from, boolean eliminates) {
        Receiver trial = one(receiver).copy();
        argument(from >= 0 && from <= 9899);
        int needed = 0;
        while (done(trial) == 0) {
            if (needed == 100) {
                return -1;
            }
            trial.get(mixOf(from + needed));
            needed++;
            if (eliminates) {
                trial.eliminate();
            }
        }
        return needed;
    }

    int ifEliminated(int receiver) {
        return one(receiver).copy().eliminate();
    }

    double use(int receiver) {
        return one(receiver).use();
    }

    long digest() {
        List<Long> values = new ArrayList<>();
        for (int what = 0; what <= 5; what++) {
            values.add((long) count(what));
        }
        for (int value : now.file) {
            values.add((long) value);
        }
        for (int r = 0; r < 3; r++) {
            for (int what = 0; what <= 8; what++) {
                values.add((long) receiver(r, what));
            }
            for (int b = 0; b < now.file.length; b++) {
                values.add((long) known(r, b));
            }
            for (int i = 0; i < one(r).waiting.size(); i++) {
                values.add((long) waiting(r, i, 0));
                values.add((long) waiting(r, i, 1));
            }
            values.add((long) ifGot(r, 100, 0));
            values.add((long) ifGot(r, 100, 1));
            values.add((long) helps(r, 0));
            values.add((long) needs(r, 5, false));
            values.add((long) needs(r, 5, true));
            values.add((long) ifEliminated(r));
            values.add(Double.doubleToLongBits(use(r)));
        }
        values.add((long) buffer.length());
        for (char c : buffer.toString().toCharArray()) {
            values.add((long) c);
        }
        long hash = 3253;
        for (long value : values) {
            hash = 31 * hash + value;
        }
        return hash;
    }
}
