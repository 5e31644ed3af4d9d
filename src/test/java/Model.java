import java.nio.ByteBuffer;
import java.util.ArrayList;
import java.util.Arrays;
import java.util.List;
import java.util.NoSuchElementException;

/** The document's face in its plainest form, over lists and the Reference, to compare LeafWitness with. */
final class Model {
    private static final class Log {
        byte[] key = new byte[0];
        List<byte[]> entries = new ArrayList<>();
        List<byte[]> heads = new ArrayList<>();
        int size = 0;

        List<byte[]> leaves(int n) {
            List<byte[]> leaves = new ArrayList<>();
            for (byte[] entry : entries.subList(0, n)) {
                leaves.add(Reference.leaf(entry));
            }
            return leaves;
        }
    }

    byte[] tape = new byte[0];
    byte[] out = new byte[0];
    private final Log[] logs = {new Log(), new Log()};
    /** By WITNESS, LOG and which. */
    private final byte[][][][] views = new byte[4][2][3][];

    int feed(int a, int b, int c, int d, int e) {
        byte[] more = ByteBuffer.allocate(20).putInt(a).putInt(b).putInt(c).putInt(d).putInt(e).array();
        return behind(more);
    }

    private int behind(byte[] more) {
        if (tape.length + more.length > 2200) {
            return -1;
        }
        tape = Reference.join(tape, more);
        return tape.length;
    }

    boolean end(int n) {
        if (n < 0 || n > tape.length) {
            return false;
        }
        tape = Arrays.copyOf(tape, n);
        return true;
    }

    int again() {
        return behind(out);
    }

    int out(int i) {
        return i >= 0 && i < out.length ? out[i] & 255 : -1;
    }

    int outs() {
        return out.length;
    }

    private byte[] used() {
        byte[] told = tape;
        tape = new byte[0];
        return told;
    }

    private Log log(int log) {
        if (log != 0 && log != 1) {
            throw new IndexOutOfBoundsException();
        }
        return logs[log];
    }

    int key(int log) {
        byte[] told = used();
        Log its = log(log);
        if (told.length > 100) {
            throw new IllegalArgumentException();
        }
        if (!its.heads.isEmpty()) {
            throw new IllegalStateException();
        }
        its.key = told;
        return told.length;
    }

    int submit(int log) {
        byte[] told = used();
        Log its = log(log);
        if (told.length > 120) {
            throw new IllegalArgumentException();
        }
        for (int i = 0; i < its.entries.size(); i++) {
            if (Arrays.equals(its.entries.get(i), told)) {
                return i;
            }
        }
        if (its.entries.size() == 200) {
            throw new IllegalStateException();
        }
        its.entries.add(told);
        return its.entries.size() - 1;
    }

    int cut(int log, long time) {
        Log its = log(log);
        long latest = its.heads.isEmpty() ? 0 : time(its.heads.get(its.heads.size() - 1));
        if (time < 0 || time < latest) {
            throw new IllegalArgumentException();
        }
        if (its.heads.size() == 40) {
            throw new IllegalStateException();
        }
        its.size = its.entries.size();
        byte[] told = Reference.join(Reference.numbers(time, its.size), Reference.root(its.leaves(its.size)));
        its.heads.add(Reference.sealed(its.key, told));
        return its.heads.size() - 1;
    }

    int size(int log, int what) {
        Log its = log(log);
        int[] all = {its.entries.size(), its.size, its.heads.size(), its.key.length};
        if (what < 0 || what > 3) {
            throw new NoSuchElementException();
        }
        return all[what];
    }

    private static byte[] one(List<byte[]> rows, int i) {
        if (i < 0 || i >= rows.size()) {
            throw new NoSuchElementException();
        }
        return rows.get(i);
    }

    int head(int log, int k) {
        out = one(log(log).heads, k);
        return (int) size(out);
    }

    int entry(int log, int i) {
        out = one(log(log).entries, i);
        return out.length;
    }

    boolean leaf(int log, int i) {
        Log its = log(log);
        out = Reference.leaf(one(its.entries, i));
        return i < its.size;
    }

    int find(int log) {
        byte[] told = used();
        Log its = log(log);
        if (told.length != 32) {
            throw new IllegalArgumentException();
        }
        List<byte[]> leaves = its.leaves(its.size);
        for (int i = 0; i < its.size; i++) {
            if (Arrays.equals(leaves.get(i), told)) {
                return i;
            }
        }
        return -1;
    }

    boolean root(int log, int n) {
        Log its = log(log);
        if (n < 0 || n > its.size) {
            throw new NoSuchElementException();
        }
        out = Reference.root(its.leaves(n));
        return true;
    }

    int way(int log, int i, int n) {
        Log its = log(log);
        if (!(0 <= i && i < n && n <= its.size)) {
            throw new NoSuchElementException();
        }
        List<byte[]> digests = Reference.way(i, its.leaves(n));
        out = Reference.join(digests);
        return digests.size();
    }

    int proof(int log, int m, int n) {
        Log its = log(log);
        if (!(0 < m && m <= n && n <= its.size)) {
            throw new NoSuchElementException();
        }
        List<byte[]> digests = Reference.steps(m, its.leaves(n), true);
        out = Reference.join(digests);
        return digests.size();
    }

    boolean isIn(long i, long n) {
        return Reference.isIn(used(), i, n);
    }

    boolean isOn(long m, long n) {
        return Reference.isOn(used(), m, n);
    }

    boolean isSealed(int log) {
        byte[] told = used();
        Log its = log(log);
        if (told.length != 80) {
            throw new IllegalArgumentException();
        }
        return Arrays.equals(told, Reference.sealed(its.key, Arrays.copyOf(told, 48)));
    }

    boolean seal(int log) {
        byte[] told = used();
        Log its = log(log);
        if (told.length != 48) {
            throw new IllegalArgumentException();
        }
        out = Reference.sealed(its.key, told);
        return true;
    }

    private static long time(byte[] head) {
        return ByteBuffer.wrap(head).getLong(0);
    }

    private static long size(byte[] head) {
        return ByteBuffer.wrap(head).getLong(8);
    }

    private static byte[] root(byte[] head) {
        return Arrays.copyOfRange(head, 16, 48);
    }

    private byte[][] view(int witness, int log) {
        if (witness < 0 || witness > 3 || log < 0 || log > 1) {
            throw new IndexOutOfBoundsException();
        }
        return views[witness][log];
    }

    private static void split(byte[][] view, byte[] first, byte[] second) {
        if (view[1] == null) {
            view[1] = first;
            view[2] = second;
        }
    }

    int follow(int witness, int log) {
        byte[] told = used();
        byte[][] view = view(witness, log);
        if (told.length < 80 || (told.length - 80) % 32 != 0) {
            throw new IllegalArgumentException();
        }
        byte[] head = Arrays.copyOf(told, 80);
        byte[] digests = Arrays.copyOfRange(told, 80, told.length);
        byte[] held = view[0];
        if (!Arrays.equals(head, Reference.sealed(logs[log].key, Arrays.copyOf(head, 48)))
                || time(head) < 0 || size(head) < 0) {
            return 1;
        }
        if (held != null && size(head) < size(held)) {
            return 2;
        }
        if (held != null && size(head) == size(held) && !Arrays.equals(root(head), root(held))) {
            split(view, held, head);
            return 3;
        }
        boolean noneDue = held == null || size(held) == size(head) || size(held) == 0;
        if (noneDue ? digests.length != 0
                : !Reference.isOn(Reference.join(root(held), root(head), digests), size(held), size(head))) {
            return 4;
        }
        if (held != null && time(head) < time(held)) {
            return 5;
        }
        view[0] = head;
        return 0;
    }

    int gossip(int witness, int other, int log) {
        byte[][] one = view(witness, log);
        byte[][] two = view(other, log);
        if (one[0] == null || two[0] == null) {
            return 0;
        }
        int order = Long.compare(size(one[0]), size(two[0]));
        if (order != 0) {
            return order > 0 ? 1 : 2;
        }
        if (Arrays.equals(root(one[0]), root(two[0]))) {
            return 0;
        }
        split(one, one[0], two[0]);
        split(two, one[0], two[0]);
        return 3;
    }

    boolean has(int witness, int log, int which) {
        byte[][] view = view(witness, log);
        if (which < 0 || which > 2 || view[which] == null) {
            throw new NoSuchElementException();
        }
        out = view[which];
        return true;
    }
}
