import java.util.Arrays;
import java.util.NoSuchElementException;

/**
 * Logs to which entries are only ever added, with trees of digests over them, sealed heads, proofs, checks of such
 * proofs by those who have no log, and witnesses who keep what shows that a log told two stories.
 */
public final class LeafWitness {
    public static final int NONE = -1;

    private static final int LOGS = 2;
    private static final int WITNESSES = 4;
    private static final int TAPE_MOST = 2200;
    private static final int KEY_MOST = 100;
    private static final int ENTRY_MOST = 120;
    private static final int ENTRIES_MOST = 200;
    private static final int HEADS_MOST = 40;

    private static final int FEED_BYTES = 20;
    private static final int DIGEST_BYTES = 32;
    /** A HEAD is TIME, SIZE, ROOT and SEAL; the places are where each begins. */
    private static final int TIME_PLACE = 0;
    private static final int SIZE_PLACE = 8;
    private static final int ROOT_PLACE = 16;
    private static final int SEAL_PLACE = 48;
    private static final int HEAD_BYTES = 80;
    /** A PROOF in 200 LEAVES has at most nine digests, and nothing else that OUT becomes is longer. */
    private static final int OUT_MOST = 9 * DIGEST_BYTES;

    private static final int TAKEN = 0;
    private static final int BAD_SEAL = 1;
    private static final int SMALLER = 2;
    private static final int SPLIT = 3;
    private static final int BAD_DIGESTS = 4;
    private static final int EARLIER = 5;

    private final Strip tape;
    private final Strip out;
    private final Log[] logs;
    private final View[] views;
    private final Path path;
    private final Climber climber;

    public LeafWitness() {
        tape = new Strip(new byte[TAPE_MOST]);
        out = new Strip(new byte[OUT_MOST]);
        logs = new Log[LOGS];
        for (int i = 0; i < LOGS; i++) {
            logs[i] = new Log();
        }
        views = new View[WITNESSES * LOGS];
        for (int i = 0; i < WITNESSES * LOGS; i++) {
            views[i] = new View();
        }
        path = new Path();
        climber = new Climber();
    }

    public int feed(int a, int b, int c, int d, int e) {
        if (tape.free() < FEED_BYTES) {
            return NONE;
        }
        tape.addInt(a);
        tape.addInt(b);
        tape.addInt(c);
        tape.addInt(d);
        tape.addInt(e);
        return tape.count;
    }

    public boolean end(int n) {
        if (n < 0 || n > tape.count) {
            return false;
        }
        tape.count = n;
        return true;
    }

    public int again() {
        if (tape.free() < out.count) {
            return NONE;
        }
        tape.addRow(out.bytes, 0, out.count);
        return tape.count;
    }

    public int out(int i) {
        return out.byteAt(i);
    }

    public int outs() {
        return out.count;
    }

    public int key(int log) throws IndexOutOfBoundsException, IllegalArgumentException, IllegalStateException {
        int told = tape.useUp();
        Log its = logOf(log);
        if (told > KEY_MOST) {
            throw new IllegalArgumentException("a KEY has at most 100 bytes");
        }
        if (its.headCount > 0) {
            throw new IllegalStateException("the LOG has a HEAD");
        }
        its.takeKey(tape.bytes, told);
        return told;
    }

    public int submit(int log) throws IndexOutOfBoundsException, IllegalArgumentException, IllegalStateException {
        int told = tape.useUp();
        Log its = logOf(log);
        if (told > ENTRY_MOST) {
            throw new IllegalArgumentException("an ENTRY has at most 120 bytes");
        }
        int number = its.numberOf(tape.bytes, told);
        if (number != NONE) {
            return number;
        }
        if (its.entryCount >= ENTRIES_MOST) {
            throw new IllegalStateException("the LOG has 200 ENTRIES");
        }
        return its.addEntry(tape.bytes, told);
    }

    public int cut(int log, long time)
            throws IndexOutOfBoundsException, IllegalArgumentException, IllegalStateException {
        Log its = logOf(log);
        if (time < 0 || time < its.latestTime()) {
            throw new IllegalArgumentException("TIME is below 0 or below the latest HEAD's");
        }
        if (its.headCount >= HEADS_MOST) {
            throw new IllegalStateException("the LOG has 40 HEADS");
        }
        return its.addHead(time);
    }

    public int size(int log, int what) throws IndexOutOfBoundsException, NoSuchElementException {
        Log its = logOf(log);
        switch (what) {
            case 0:
                return its.entryCount;
            case 1:
                return its.treeSize;
            case 2:
                return its.headCount;
            case 3:
                return its.keyBytes;
            default:
                throw new NoSuchElementException("what is 0 to 3");
        }
    }

    public int head(int log, int k) throws IndexOutOfBoundsException, NoSuchElementException {
        Row row = logOf(log).headAt(k);
        if (row == null) {
            throw new NoSuchElementException("there is no such HEAD");
        }
        out.become(row.bytes, row.bytes.length);
        return (int) row.longAt(SIZE_PLACE);
    }

    public int entry(int log, int i) throws IndexOutOfBoundsException, NoSuchElementException {
        Row row = logOf(log).entryAt(i);
        if (row == null) {
            throw new NoSuchElementException("there is no such ENTRY");
        }
        out.become(row.bytes, row.bytes.length);
        return row.bytes.length;
    }

    public boolean leaf(int log, int i) throws IndexOutOfBoundsException, NoSuchElementException {
        Log its = logOf(log);
        if (i < 0 || i >= its.entryCount) {
            throw new NoSuchElementException("there is no such ENTRY");
        }
        out.become(its.leafAt(i), DIGEST_BYTES);
        return i < its.treeSize;
    }

    public int find(int log) throws IndexOutOfBoundsException, IllegalArgumentException {
        int told = tape.useUp();
        Log its = logOf(log);
        if (told != DIGEST_BYTES) {
            throw new IllegalArgumentException("a LEAF has 32 bytes");
        }
        return its.numberOfLeaf(tape.bytes);
    }

    public boolean root(int log, int n) throws IndexOutOfBoundsException, NoSuchElementException {
        Log its = logOf(log);
        if (n < 0 || n > its.treeSize) {
            throw new NoSuchElementException("the TREE has no such first LEAVES");
        }
        out.become(its.rootOf(0, n), DIGEST_BYTES);
        return true;
    }

    public int way(int log, int i, int n) throws IndexOutOfBoundsException, NoSuchElementException {
        Log its = logOf(log);
        if (i < 0 || i >= n || n > its.treeSize) {
            throw new NoSuchElementException("the TREE has no such WAY");
        }
        path.goToLeaf(i, n);
        return its.writeDigests(path, out);
    }

    public int proof(int log, int m, int n) throws IndexOutOfBoundsException, NoSuchElementException {
        Log its = logOf(log);
        if (m <= 0 || m > n || n > its.treeSize) {
            throw new NoSuchElementException("the TREE has no such PROOF");
        }
        path.goToSize(m, n);
        return its.writeDigests(path, out);
    }

    public boolean isIn(long i, long n) {
        int told = tape.useUp();
        if (i < 0 || i >= n) {
            return false;
        }
        path.goToLeaf(i, n);
        int digestsPlace = 2 * DIGEST_BYTES;
        if (told != digestsPlace + path.digests() * DIGEST_BYTES) {
            return false;
        }
        climber.start(tape.bytes, DIGEST_BYTES);
        climber.climb(path, tape.bytes, digestsPlace);
        return climber.cameTo(tape.bytes, 0);
    }

    public boolean isOn(long m, long n) {
        int told = tape.useUp();
        if (m <= 0 || m > n) {
            return false;
        }
        return goesOn(m, n, tape.bytes, 0, DIGEST_BYTES, told - 2 * DIGEST_BYTES, 2 * DIGEST_BYTES);
    }

    public boolean isSealed(int log) throws IndexOutOfBoundsException, IllegalArgumentException {
        int told = tape.useUp();
        Log its = logOf(log);
        if (told != HEAD_BYTES) {
            throw new IllegalArgumentException("a HEAD has 80 bytes");
        }
        return its.hasSealed(tape.bytes);
    }

    public boolean seal(int log) throws IndexOutOfBoundsException, IllegalArgumentException {
        int told = tape.useUp();
        Log its = logOf(log);
        if (told != SEAL_PLACE) {
            throw new IllegalArgumentException("TIME, SIZE and ROOT have 48 bytes");
        }
        out.become(tape.bytes, SEAL_PLACE);
        out.addRow(its.sealOf(tape.bytes), 0, DIGEST_BYTES);
        return true;
    }

    public int follow(int witness, int log) throws IndexOutOfBoundsException, IllegalArgumentException {
        int told = tape.useUp();
        View view = viewOf(witness, log);
        if (told < HEAD_BYTES || (told - HEAD_BYTES) % DIGEST_BYTES != 0) {
            throw new IllegalArgumentException("a HEAD and whole digests are wanted");
        }
        int verdict = judge(view.held, logOf(log), told - HEAD_BYTES);
        if (verdict == TAKEN) {
            view.held = new Row(tape.bytes, HEAD_BYTES);
        }
        if (verdict == SPLIT && view.lacksEvidence()) {
            view.keepEvidence(view.held, new Row(tape.bytes, HEAD_BYTES));
        }
        return verdict;
    }

    public int gossip(int witness, int other, int log) throws IndexOutOfBoundsException {
        View one = viewOf(witness, log);
        View two = viewOf(other, log);
        Row first = one.held;
        Row second = two.held;
        if (first == null || second == null) {
            return 0;
        }
        long firstSize = first.longAt(SIZE_PLACE);
        long secondSize = second.longAt(SIZE_PLACE);
        if (firstSize != secondSize) {
            return firstSize > secondSize ? 1 : 2;
        }
        if (Row.same(first.bytes, ROOT_PLACE, second.bytes, ROOT_PLACE, DIGEST_BYTES)) {
            return 0;
        }
        one.keepEvidence(first, second);
        two.keepEvidence(first, second);
        return SPLIT;
    }

    public boolean has(int witness, int log, int which) throws IndexOutOfBoundsException, NoSuchElementException {
        Row row = viewOf(witness, log).rowAt(which);
        if (row == null) {
            throw new NoSuchElementException("the WITNESS has no such HEAD");
        }
        out.become(row.bytes, row.bytes.length);
        return true;
    }

    private Log logOf(int log) throws IndexOutOfBoundsException {
        if (log < 0 || log >= LOGS) {
            throw new IndexOutOfBoundsException("there is no such LOG");
        }
        return logs[log];
    }

    private View viewOf(int witness, int log) throws IndexOutOfBoundsException {
        if (witness < 0 || witness >= WITNESSES || log < 0 || log >= LOGS) {
            throw new IndexOutOfBoundsException("there is no such WITNESS or LOG");
        }
        return views[witness * LOGS + log];
    }

    /** What follow() answers to the HEAD at the TAPE's front, for a WITNESS that has the HEAD held, or null. */
    private int judge(Row held, Log log, int digestBytes) {
        long time = Row.readLong(tape.bytes, TIME_PLACE);
        long size = Row.readLong(tape.bytes, SIZE_PLACE);
        if (time < 0 || size < 0 || !log.hasSealed(tape.bytes)) {
            return BAD_SEAL;
        }
        if (held == null) {
            return digestBytes == 0 ? TAKEN : BAD_DIGESTS;
        }
        long heldSize = held.longAt(SIZE_PLACE);
        if (size < heldSize) {
            return SMALLER;
        }
        if (size == heldSize && !Row.same(held.bytes, ROOT_PLACE, tape.bytes, ROOT_PLACE, DIGEST_BYTES)) {
            return SPLIT;
        }
        boolean right = size == heldSize || heldSize == 0
                ? digestBytes == 0
                : goesOn(heldSize, size, held.bytes, ROOT_PLACE, ROOT_PLACE, digestBytes, HEAD_BYTES);
        if (!right) {
            return BAD_DIGESTS;
        }
        return time < held.longAt(TIME_PLACE) ? EARLIER : TAKEN;
    }

    /**
     * Whether the digests on the TAPE show that n LEAVES go on from m (0 < m <= n). The ROOT of the m LEAVES stands
     * in a row of its own, for a WITNESS brings it along; the ROOT of the n LEAVES stands on the TAPE.
     */
    private boolean goesOn(long m, long n, byte[] first, int firstPlace, int secondPlace, int digestBytes,
            int digestsPlace) {
        path.goToSize(m, n);
        if (digestBytes != path.digests() * DIGEST_BYTES) {
            return false;
        }
        climber.start(first, firstPlace);
        climber.climb(path, tape.bytes, digestsPlace);
        return climber.leftFrom(first, firstPlace) && climber.cameTo(tape.bytes, secondPlace);
    }

    /** Bytes that never change once made: an ENTRY, a digest or a HEAD. So several holders may share one. */
    private static final class Row {
        final byte[] bytes;

        /** The first n bytes of the source; none, if it has fewer. */
        Row(byte[] source, int n) {
            int length = holds(source, 0, n) ? n : 0;
            bytes = new byte[length];
            copy(source, 0, bytes, 0, length);
        }

        long longAt(int place) {
            return readLong(bytes, place);
        }

        static boolean holds(byte[] row, int place, int n) {
            return row != null && place >= 0 && n >= 0 && place <= row.length && n <= row.length - place;
        }

        static long readLong(byte[] row, int place) {
            if (!holds(row, place, 8)) {
                return 0;
            }
            long number = 0;
            for (int i = 0; i < 8; i++) {
                number = (number << 8) | (row[place + i] & 255);
            }
            return number;
        }

        static void writeLong(byte[] row, int place, long number) {
            if (!holds(row, place, 8)) {
                return;
            }
            for (int i = 0; i < 8; i++) {
                row[place + i] = (byte) (number >>> (56 - 8 * i));
            }
        }

        static boolean same(byte[] a, int aPlace, byte[] b, int bPlace, int n) {
            if (!holds(a, aPlace, n) || !holds(b, bPlace, n)) {
                return false;
            }
            for (int i = 0; i < n; i++) {
                if (a[aPlace + i] != b[bPlace + i]) {
                    return false;
                }
            }
            return true;
        }

        static void copy(byte[] from, int fromPlace, byte[] to, int toPlace, int n) {
            if (holds(from, fromPlace, n) && holds(to, toPlace, n)) {
                System.arraycopy(from, fromPlace, to, toPlace, n);
            }
        }
    }

    /** The TAPE or OUT: a row of fixed room of which the first bytes, count many, are there. */
    private static final class Strip {
        final byte[] bytes;
        int count;

        Strip(byte[] room) {
            bytes = room;
        }

        int free() {
            return bytes.length - count;
        }

        /** Empties the strip and tells how many bytes it had; they stay readable in the row until the next call. */
        int useUp() {
            int had = count;
            count = 0;
            return had;
        }

        void become(byte[] row, int n) {
            count = 0;
            addRow(row, 0, n);
        }

        void addRow(byte[] row, int place, int n) {
            if (Row.holds(row, place, n) && n <= free()) {
                Row.copy(row, place, bytes, count, n);
                count += n;
            }
        }

        void addInt(int number) {
            if (free() < 4) {
                return;
            }
            for (int shift = 24; shift >= 0; shift -= 8) {
                bytes[count] = (byte) (number >>> shift);
                count++;
            }
        }

        int byteAt(int i) {
            return i < 0 || i >= count ? NONE : bytes[i] & 255;
        }
    }

    /** SHA-256 (FIPS 180-4), one message at a time. */
    private static final class Sha {
        static final int BLOCK_BYTES = 64;
        /** The message's length fills the last eight bytes of its last block. */
        private static final int LENGTH_PLACE = 56;
        private static final int[] START = {
            0x6a09e667, 0xbb67ae85, 0x3c6ef372, 0xa54ff53a, 0x510e527f, 0x9b05688c, 0x1f83d9ab, 0x5be0cd19
        };
        private static final int[] ROUND = {
            0x428a2f98, 0x71374491, 0xb5c0fbcf, 0xe9b5dba5, 0x3956c25b, 0x59f111f1, 0x923f82a4, 0xab1c5ed5,
            0xd807aa98, 0x12835b01, 0x243185be, 0x550c7dc3, 0x72be5d74, 0x80deb1fe, 0x9bdc06a7, 0xc19bf174,
            0xe49b69c1, 0xefbe4786, 0x0fc19dc6, 0x240ca1cc, 0x2de92c6f, 0x4a7484aa, 0x5cb0a9dc, 0x76f988da,
            0x983e5152, 0xa831c66d, 0xb00327c8, 0xbf597fc7, 0xc6e00bf3, 0xd5a79147, 0x06ca6351, 0x14292967,
            0x27b70a85, 0x2e1b2138, 0x4d2c6dfc, 0x53380d13, 0x650a7354, 0x766a0abb, 0x81c2c92e, 0x92722c85,
            0xa2bfe8a1, 0xa81a664b, 0xc24b8b70, 0xc76c51a3, 0xd192e819, 0xd6990624, 0xf40e3585, 0x106aa070,
            0x19a4c116, 0x1e376c08, 0x2748774c, 0x34b0bcb5, 0x391c0cb3, 0x4ed8aa4a, 0x5b9cca4f, 0x682e6ff3,
            0x748f82ee, 0x78a5636f, 0x84c87814, 0x8cc70208, 0x90befffa, 0xa4506ceb, 0xbef9a3f7, 0xc67178f2
        };

        private final int[] state = new int[8];
        private final int[] words = new int[64];
        private int filled;
        private int total;

        void begin() {
            System.arraycopy(START, 0, state, 0, 8);
            filled = 0;
            total = 0;
        }

        void add(int oneByte) {
            put(oneByte);
            if (filled >= BLOCK_BYTES) {
                mix();
            }
        }

        void addRow(byte[] row, int place, int n) {
            if (!Row.holds(row, place, n)) {
                return;
            }
            for (int i = 0; i < n; i++) {
                put(row[place + i]);
                if (filled >= BLOCK_BYTES) {
                    mix();
                }
            }
        }

        private void put(int oneByte) {
            int word = (filled >> 2) & 15;
            // What the last block left in the word is shifted out by its four new bytes.
            words[word] = (words[word] << 8) | (oneByte & 255);
            total++;
            filled++;
        }

        void finish(byte[] into) {
            // No message here is so long that the eight bytes of its length in bits need more than an int.
            int bits = total * 8;
            int tail = filled < LENGTH_PLACE ? BLOCK_BYTES - filled : 2 * BLOCK_BYTES - filled;
            for (int left = tail; left > 0; left--) {
                int last = left > 4 ? 0 : bits >>> (8 * (left - 1));
                put(left == tail ? 0x80 : last);
                if (filled >= BLOCK_BYTES) {
                    mix();
                }
            }
            if (!Row.holds(into, 0, DIGEST_BYTES)) {
                return;
            }
            for (int i = 0; i < DIGEST_BYTES; i++) {
                into[i] = (byte) (state[i >> 2] >>> (24 - 8 * (i & 3)));
            }
        }

        /** NODE(a, b); the answer may come where a or b stood, for both are read before it is written. */
        void node(byte[] a, int aPlace, byte[] b, int bPlace, byte[] into) {
            begin();
            add(1);
            addRow(a, aPlace, DIGEST_BYTES);
            addRow(b, bPlace, DIGEST_BYTES);
            finish(into);
        }

        /** Works the full block in; the next byte begins another one. */
        private void mix() {
            for (int t = 16; t < 64; t++) {
                int x = words[t - 15];
                int y = words[t - 2];
                int low = (x >>> 7 | x << 25) ^ (x >>> 18 | x << 14) ^ (x >>> 3);
                int high = (y >>> 17 | y << 15) ^ (y >>> 19 | y << 13) ^ (y >>> 10);
                words[t] = words[t - 16] + low + words[t - 7] + high;
            }
            int a = state[0];
            int b = state[1];
            int c = state[2];
            int d = state[3];
            int e = state[4];
            int f = state[5];
            int g = state[6];
            int h = state[7];
            for (int t = 0; t < 64; t++) {
                int high = (e >>> 6 | e << 26) ^ (e >>> 11 | e << 21) ^ (e >>> 25 | e << 7);
                int choice = (e & f) ^ (~e & g);
                int one = h + high + choice + ROUND[t] + words[t];
                int low = (a >>> 2 | a << 30) ^ (a >>> 13 | a << 19) ^ (a >>> 22 | a << 10);
                int most = (a & b) ^ (a & c) ^ (b & c);
                h = g;
                g = f;
                f = e;
                e = d + one;
                d = c;
                c = b;
                b = a;
                a = one + low + most;
            }
            state[0] += a;
            state[1] += b;
            state[2] += c;
            state[3] += d;
            state[4] += e;
            state[5] += f;
            state[6] += g;
            state[7] += h;
            filled = 0;
        }
    }

    /**
     * The parts passed by on the way down from n LEAVES to one LEAF, or to where the first m of them end. Logs write
     * the ROOTS of these parts and checks put digests in their place, so both go by this one descent.
     */
    private static final class Path {
        /** A long's LEAVES are halved at most 63 times. */
        private static final int LEVELS = 64;

        final long[] froms = new long[LEVELS];
        final long[] tos = new long[LEVELS];
        final boolean[] fronts = new boolean[LEVELS];
        int levels;
        /** Where the descent ended. */
        long start;
        long stop;
        /** Whether the ROOT of the part where it ended is a digest too, and the first one. */
        boolean endTold;

        int digests() {
            return levels + (endTold ? 1 : 0);
        }

        /** For 0 <= i < n. */
        void goToLeaf(long i, long n) {
            begin(n);
            for (int level = 0; level < LEVELS && stop - start > 1; level++) {
                long middle = start + frontOf(stop - start);
                if (i < middle) {
                    passBack(middle);
                } else {
                    passFront(middle);
                }
            }
        }

        /** For 0 < m <= n. */
        void goToSize(long m, long n) {
            begin(n);
            for (int level = 0; level < LEVELS && stop > m; level++) {
                long middle = start + frontOf(stop - start);
                if (m <= middle) {
                    passBack(middle);
                } else {
                    passFront(middle);
                    endTold = true;
                }
            }
        }

        private void begin(long n) {
            levels = 0;
            start = 0;
            stop = n;
            endTold = false;
        }

        private void passBack(long middle) {
            note(middle, stop, false);
            stop = middle;
        }

        private void passFront(long middle) {
            note(start, middle, true);
            start = middle;
        }

        private void note(long from, long to, boolean front) {
            if (levels >= LEVELS) {
                return;
            }
            froms[levels] = from;
            tos[levels] = to;
            fronts[levels] = front;
            levels++;
        }

        /** The greatest power of 2 below n, for n above 1; k < n - k says 2k < n without running over. */
        private static long frontOf(long n) {
            long k = 1;
            for (int i = 0; i < 62 && k < n - k; i++) {
                k <<= 1;
            }
            return k;
        }
    }

    /** Makes ROOTS of digests, up a path: that of all LEAVES and, beside it, that of those that were there before. */
    private static final class Climber {
        private final Sha sha = new Sha();
        private final byte[] older = new byte[DIGEST_BYTES];
        private final byte[] newer = new byte[DIGEST_BYTES];

        void start(byte[] row, int place) {
            Row.copy(row, place, older, 0, DIGEST_BYTES);
            Row.copy(row, place, newer, 0, DIGEST_BYTES);
        }

        void climb(Path path, byte[] digests, int digestsPlace) {
            int place = digestsPlace;
            if (path.endTold) {
                start(digests, place);
                place += DIGEST_BYTES;
            }
            for (int level = path.levels - 1; level >= 0 && level < Path.LEVELS; level--) {
                if (path.fronts[level]) {
                    sha.node(digests, place, older, 0, older);
                    sha.node(digests, place, newer, 0, newer);
                } else {
                    // A BACK that is passed by has only LEAVES that came later.
                    sha.node(newer, 0, digests, place, newer);
                }
                place += DIGEST_BYTES;
            }
        }

        boolean leftFrom(byte[] row, int place) {
            return Row.same(older, 0, row, place, DIGEST_BYTES);
        }

        boolean cameTo(byte[] row, int place) {
            return Row.same(newer, 0, row, place, DIGEST_BYTES);
        }
    }

    /** A LOG, with the ROOT of every part that is full, so that no ROOT has to be made from the LEAVES on again. */
    private static final class Log {
        private static final int INNER_PAD = 0x36;
        private static final int OUTER_PAD = 0x5c;

        private final Sha sha = new Sha();
        /** The KEY as HMAC pads it: nothing else is ever asked of it but its length. */
        private final byte[] keyBlock = new byte[Sha.BLOCK_BYTES];
        int keyBytes;
        private final Row[] entries = new Row[ENTRIES_MOST];
        int entryCount;
        /** The ROOT of the LEAVES from start on and below stop, if they are a full part, is at start + stop - 1. */
        private final Row[] fulls = new Row[2 * ENTRIES_MOST];
        int treeSize;
        private final Row[] heads = new Row[HEADS_MOST];
        int headCount;
        private final byte[] digest = new byte[DIGEST_BYTES];
        private final byte[] madeHead = new byte[HEAD_BYTES];

        void takeKey(byte[] told, int n) {
            Arrays.fill(keyBlock, (byte) 0);
            if (n > Sha.BLOCK_BYTES) {
                sha.begin();
                sha.addRow(told, 0, n);
                sha.finish(keyBlock);
            } else {
                Row.copy(told, 0, keyBlock, 0, n);
            }
            keyBytes = n;
        }

        int numberOf(byte[] told, int n) {
            for (int i = 0; i < entryCount && i < ENTRIES_MOST; i++) {
                Row row = entries[i];
                if (row != null && row.bytes.length == n && Row.same(row.bytes, 0, told, 0, n)) {
                    return i;
                }
            }
            return NONE;
        }

        int addEntry(byte[] told, int n) {
            if (entryCount >= ENTRIES_MOST) {
                return NONE;
            }
            int number = entryCount;
            entries[number] = new Row(told, n);
            entryCount++;
            sha.begin();
            sha.add(0);
            sha.addRow(told, 0, n);
            sha.finish(digest);
            keepFull(number, entryCount);
            joinFulls(entryCount);
            return number;
        }

        /** Keeps the ROOTS of the greater parts that are full since the LEAF before stop came. */
        private void joinFulls(int stop) {
            for (int half = 1; half < ENTRIES_MOST && (stop & (2 * half - 1)) == 0; half *= 2) {
                int middle = stop - half;
                int start = middle - half;
                sha.node(fullOf(start, middle), 0, fullOf(middle, stop), 0, digest);
                keepFull(start, stop);
            }
        }

        private void keepFull(int start, int stop) {
            int slot = start + stop - 1;
            if (slot >= 0 && slot < fulls.length) {
                fulls[slot] = new Row(digest, DIGEST_BYTES);
            }
        }

        private byte[] fullOf(int start, int stop) {
            int slot = start + stop - 1;
            Row row = slot < 0 || slot >= fulls.length ? null : fulls[slot];
            return row == null ? null : row.bytes;
        }

        Row entryAt(int i) {
            return i < 0 || i >= entryCount || i >= ENTRIES_MOST ? null : entries[i];
        }

        byte[] leafAt(int i) {
            return fullOf(i, i + 1);
        }

        int numberOfLeaf(byte[] told) {
            for (int i = 0; i < treeSize; i++) {
                if (Row.same(leafAt(i), 0, told, 0, DIGEST_BYTES)) {
                    return i;
                }
            }
            return NONE;
        }

        /**
         * The ROOT of the LEAVES from start on and below stop, for a part that the definition of ROOT makes; good
         * until the next call. Such a part is full ones of falling widths, and is joined from the smallest one on.
         */
        byte[] rootOf(int start, int stop) {
            if (start >= stop) {
                sha.begin();
                sha.finish(digest);
                return digest;
            }
            int last = stop;
            for (int width = 1; width <= ENTRIES_MOST && last > start; width *= 2) {
                if (((stop - start) & width) != 0) {
                    byte[] full = fullOf(last - width, last);
                    if (last == stop) {
                        Row.copy(full, 0, digest, 0, DIGEST_BYTES);
                    } else {
                        sha.node(full, 0, digest, 0, digest);
                    }
                    last -= width;
                }
            }
            return digest;
        }

        /** Writes the ROOTS of the parts that a path passes by, the lowest first, and tells how many they are. */
        int writeDigests(Path path, Strip into) {
            into.count = 0;
            if (path.endTold) {
                into.addRow(rootOf((int) path.start, (int) path.stop), 0, DIGEST_BYTES);
            }
            for (int level = path.levels - 1; level >= 0 && level < Path.LEVELS; level--) {
                into.addRow(rootOf((int) path.froms[level], (int) path.tos[level]), 0, DIGEST_BYTES);
            }
            return path.digests();
        }

        long latestTime() {
            Row latest = headAt(headCount - 1);
            return latest == null ? 0 : latest.longAt(TIME_PLACE);
        }

        Row headAt(int k) {
            return k < 0 || k >= headCount || k >= HEADS_MOST ? null : heads[k];
        }

        int addHead(long time) {
            if (headCount >= HEADS_MOST) {
                return NONE;
            }
            treeSize = entryCount;
            Row.writeLong(madeHead, TIME_PLACE, time);
            Row.writeLong(madeHead, SIZE_PLACE, treeSize);
            Row.copy(rootOf(0, treeSize), 0, madeHead, ROOT_PLACE, DIGEST_BYTES);
            Row.copy(sealOf(madeHead), 0, madeHead, SEAL_PLACE, DIGEST_BYTES);
            heads[headCount] = new Row(madeHead, HEAD_BYTES);
            headCount++;
            return headCount - 1;
        }

        /** The SEAL of the TIME, SIZE and ROOT at the row's front; good until the next call. */
        byte[] sealOf(byte[] told) {
            beginPadded(INNER_PAD);
            sha.add(0);
            sha.add(1);
            sha.addRow(told, 0, SEAL_PLACE);
            sha.finish(digest);
            beginPadded(OUTER_PAD);
            sha.addRow(digest, 0, DIGEST_BYTES);
            sha.finish(digest);
            return digest;
        }

        private void beginPadded(int pad) {
            sha.begin();
            for (int i = 0; i < Sha.BLOCK_BYTES; i++) {
                sha.add(keyBlock[i] ^ pad);
            }
        }

        boolean hasSealed(byte[] told) {
            return Row.same(sealOf(told), 0, told, SEAL_PLACE, DIGEST_BYTES);
        }
    }

    /** What a WITNESS has of a LOG; null is for a HEAD that it has not. */
    private static final class View {
        Row held;
        private Row first;
        private Row second;

        boolean lacksEvidence() {
            return first == null;
        }

        /** Only the first EVIDENCE stays. */
        void keepEvidence(Row one, Row other) {
            if (lacksEvidence()) {
                first = one;
                second = other;
            }
        }

        Row rowAt(int which) {
            switch (which) {
                case 0:
                    return held;
                case 1:
                    return first;
                case 2:
                    return second;
                default:
                    return null;
            }
        }
    }
}
