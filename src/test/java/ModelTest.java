import java.util.ArrayList;
import java.util.Arrays;
import java.util.List;
import java.util.Map;
import java.util.Random;
import java.util.TreeMap;

/** Runs of calls, drawn from fixed seeds, on a LeafWitness and on the Model at once. */
public final class ModelTest {
    private static final int RUNS = 1500;
    private static final int SCENE_CALLS = 150;
    private static final Map<String, Integer> SEEN = new TreeMap<>();

    private final Random random;
    private final Pair pair;
    private long time = 0;

    private ModelTest(long seed) {
        random = new Random(seed);
        pair = new Pair("seed " + seed, random);
    }

    public static void main(String[] args) {
        for (long seed = 0; seed < RUNS; seed++) {
            new ModelTest(seed).play();
        }
        fillALog();
        // A draw that never meets a verdict would pass without testing it.
        for (String wanted : new String[] {"follow 0", "follow 1", "follow 2", "follow 3", "follow 4", "follow 5",
            "gossip 0", "gossip 1", "gossip 2", "gossip 3", "isIn true", "isIn false", "isOn true", "isOn false"}) {
            Due.is("how often " + wanted + " came is above 20", SEEN.getOrDefault(wanted, 0) > 20, true);
        }
        Due.done("ModelTest");
    }

    private static void saw(String what) {
        SEEN.merge(what, 1, Integer::sum);
    }

    /** The limits of a LOG: 200 ENTRIES and 40 HEADS, and the ROOTS of great trees. */
    private static void fillALog() {
        Pair pair = new Pair("full log", new Random(1));
        for (int i = 0; i < 201; i++) {
            pair.feed(i, 1, 2, 3, 4);
            pair.submit(0);
        }
        pair.feed(7, 1, 2, 3, 4);
        pair.submit(0);
        for (int i = 0; i < 41; i++) {
            pair.cut(0, i / 2);
        }
        pair.cut(0, 3);
        pair.head(0, 39);
        pair.root(0, 200);
        pair.proof(0, 199, 200);
        pair.way(0, 199, 200);
        pair.way(0, 0, 200);
    }

    private void play() {
        if (random.nextInt(3) > 0) {
            pair.bring(bytes(random.nextInt(104)));
            pair.key(random.nextInt(2));
        }
        boolean talk = random.nextInt(3) == 0;
        while (pair.roomFor(SCENE_CALLS)) {
            if (talk) {
                talkOfSmallHeads();
            } else {
                scene();
            }
        }
    }

    /** WITNESSES with HEADS of few SIZES and ROOTS, so that they agree, differ and meet a SPLIT often. */
    private void talkOfSmallHeads() {
        int log = random.nextInt(2);
        int witness = random.nextInt(4);
        byte[] root = new byte[32];
        root[31 * random.nextInt(2)] = (byte) random.nextInt(2);
        pair.end(0);
        pair.bring(Reference.join(Reference.numbers(random.nextInt(3), random.nextInt(3)), root));
        pair.seal(log);
        pair.again();
        saw("follow " + pair.follow(witness, log));
        gossipSome();
        look(witness, log);
    }

    private void scene() {
        switch (random.nextInt(14)) {
            case 0:
            case 1:
            case 2:
                submitSome();
                break;
            case 3:
                cutOne();
                break;
            case 4:
                checkWay();
                break;
            case 5:
                checkProof();
                break;
            case 6:
                checkGreatWay();
                break;
            case 7:
                checkGreatProof();
                break;
            case 8:
                followLog();
                break;
            case 9:
            case 10:
                followForged();
                break;
            case 11:
                gossipSome();
                break;
            case 12:
                checkSeal();
                break;
            default:
                strayCalls();
        }
    }

    private byte[] bytes(int n) {
        byte[] bytes = new byte[n];
        random.nextBytes(bytes);
        return bytes;
    }

    private int log() {
        return random.nextInt(40) == 0 ? random.nextInt(5) - 2 : random.nextInt(2);
    }

    private int witness() {
        return random.nextInt(40) == 0 ? random.nextInt(8) - 2 : random.nextInt(4);
    }

    /** A number from 0 to n, now and then one beyond. */
    private int upTo(int n) {
        return random.nextInt(20) == 0 ? n + 1 - 3 * random.nextInt(2) : random.nextInt(Math.max(n, 0) + 1);
    }

    private int treeSize(int log) {
        return log == 0 || log == 1 ? model().size(log, 1) : 3;
    }

    private Model model() {
        return pair.model;
    }

    private void submitSome() {
        int log = log();
        for (int i = random.nextInt(12); i >= 0; i--) {
            // Few different ENTRIES, so that the same one comes again.
            pair.feed(random.nextInt(60), 0, 0, 0, random.nextInt(2));
            if (random.nextInt(3) == 0) {
                pair.end(random.nextInt(21));
            }
            pair.submit(log);
        }
        if (random.nextInt(8) == 0) {
            pair.bring(bytes(118 + random.nextInt(5)));
            pair.submit(log);
        }
    }

    private void cutOne() {
        int log = log();
        if (random.nextInt(4) > 0) {
            time += random.nextInt(3);
        }
        pair.cut(log, random.nextInt(10) == 0 ? random.nextInt(5) - 2 : time);
        pair.head(log, upTo(3));
        pair.size(log, random.nextInt(6) - 1);
    }

    private void checkWay() {
        int log = log();
        int n = upTo(treeSize(log));
        int i = upTo(Math.max(n - 1, 0));
        pair.root(log, n);
        pair.again();
        pair.leaf(log, i);
        pair.again();
        pair.way(log, i, n);
        pair.again();
        spoil();
        saw("isIn " + pair.isIn(random.nextInt(8) == 0 ? i + 1 : i, random.nextInt(8) == 0 ? n + 1 : n));
    }

    private void checkProof() {
        int log = log();
        int n = upTo(treeSize(log));
        int m = upTo(n);
        pair.root(log, m);
        pair.again();
        pair.root(log, n);
        pair.again();
        pair.proof(log, m, n);
        pair.again();
        spoil();
        saw("isOn " + pair.isOn(random.nextInt(8) == 0 ? m + 1 : m, random.nextInt(8) == 0 ? n + 1 : n));
    }

    /** Now and then a byte too many or too few, or a digest too many, or a changed one. */
    private void spoil() {
        switch (random.nextInt(16)) {
            case 0:
                pair.end(model().tape.length - 1);
                break;
            case 1:
                pair.bring(bytes(1));
                break;
            case 2:
                pair.bring(bytes(32));
                break;
            case 3:
                pair.end(Math.max(model().tape.length - 32, 0));
                break;
            case 4:
                pair.end(Math.max(model().tape.length - 32, 0));
                pair.bring(bytes(32));
                break;
            default:
        }
    }

    /** Numbers of all lengths, the greatest long and powers of 2 and their neighbours among them. */
    private long greatNumber() {
        long some = random.nextLong() >>> 1 + random.nextInt(63);
        switch (random.nextInt(4)) {
            case 0:
                return Math.max(1, Long.highestOneBit(some) + random.nextInt(3) - 1);
            case 1:
                return Long.MAX_VALUE - random.nextInt(3);
            default:
                return Math.max(1, some);
        }
    }

    private long greatNumberUpTo(long n) {
        switch (random.nextInt(4)) {
            case 0:
                return Math.max(1, n - random.nextInt(3));
            case 1:
                return Math.min(n, Math.max(1, Long.highestOneBit(greatNumber())));
            default:
                return 1 + Math.floorMod(random.nextLong(), n);
        }
    }

    private List<byte[]> digests(int n) {
        List<byte[]> digests = new ArrayList<>();
        for (int i = 0; i < n; i++) {
            digests.add(bytes(32));
        }
        return digests;
    }

    private byte[] changed(byte[] row) {
        byte[] other = row.clone();
        if (other.length > 0) {
            other[random.nextInt(other.length)] ^= (byte) (1 << random.nextInt(8));
        }
        return other;
    }

    private void bringAll(byte[] told) {
        pair.end(0);
        pair.bring(random.nextInt(5) == 0 ? changed(told) : told);
    }

    private void checkGreatWay() {
        long n = greatNumber();
        long i = greatNumberUpTo(n) - 1;
        List<byte[]> digests = digests(Reference.wayDigests(i, n));
        byte[] leaf = bytes(32);
        byte[] root = Reference.rootByWay(leaf, i, n, digests.iterator());
        bringAll(Reference.join(root, leaf, Reference.join(digests)));
        saw("isIn " + pair.isIn(i, n));
    }

    private void checkGreatProof() {
        long n = greatNumber();
        long m = greatNumberUpTo(n);
        List<byte[]> digests = digests(Reference.stepDigests(m, n, true));
        byte[][] roots = Reference.rootsBySteps(bytes(32), m, n, true, digests.iterator());
        bringAll(Reference.join(roots[0], roots[1], Reference.join(digests)));
        saw("isOn " + pair.isOn(m, n));
    }

    /** A WITNESS is told one of the LOG's HEADS, with the PROOF from what it has. */
    private void followLog() {
        int log = random.nextInt(2);
        int heads = model().size(log, 2);
        if (heads == 0) {
            return;
        }
        int witness = random.nextInt(4);
        int held = heldSize(witness, log);
        pair.end(0);
        pair.head(log, heads - 1 - random.nextInt(Math.min(heads, 3)));
        pair.again();
        int n = (int) java.nio.ByteBuffer.wrap(model().tape).getLong(8);
        if (held > 0 && held < n) {
            pair.proof(log, held, n);
            pair.again();
        }
        spoil();
        saw("follow " + pair.follow(witness, log));
        look(witness, log);
    }

    private int heldSize(int witness, int log) {
        byte[] head = held(witness, log);
        return head == null ? 0 : (int) java.nio.ByteBuffer.wrap(head).getLong(8);
    }

    private byte[] held(int witness, int log) {
        byte[] kept = model().out;
        try {
            model().has(witness, log, 0);
            return model().out;
        } catch (java.util.NoSuchElementException e) {
            return null;
        } finally {
            model().out = kept;
        }
    }

    private void look(int witness, int log) {
        for (int which = -1; which <= 3; which++) {
            if (random.nextInt(3) == 0) {
                pair.has(witness, log, which);
            }
        }
    }

    /** HEADS that no LOG cut, sealed all the same, that go on from what the WITNESS has or nearly so. */
    private void followForged() {
        int log = random.nextInt(2);
        int witness = random.nextInt(4);
        byte[] held = held(witness, log);
        long heldTime = held == null ? 5 : java.nio.ByteBuffer.wrap(held).getLong(0);
        long m = held == null ? 0 : java.nio.ByteBuffer.wrap(held).getLong(8);
        long n = forgedSize(m);
        List<byte[]> digests = digests(0);
        byte[] root = held != null && random.nextInt(3) == 0 ? Arrays.copyOfRange(held, 16, 48) : bytes(32);
        if (held != null && m > 0 && n > m) {
            digests = digests(Reference.stepDigests(m, n, true));
            root = Reference.rootsBySteps(Arrays.copyOfRange(held, 16, 48), m, n, true, digests.iterator())[1];
        }
        long toldTime = random.nextInt(8) == 0 ? random.nextLong() : Math.max(0, heldTime + random.nextInt(4) - 1);
        pair.end(0);
        pair.bring(Reference.join(Reference.numbers(toldTime, n), root));
        pair.seal(random.nextInt(10) == 0 ? 1 - log : log);
        pair.again();
        pair.bring(Reference.join(digests));
        spoil();
        saw("follow " + pair.follow(witness, log));
        look(witness, log);
    }

    private long forgedSize(long m) {
        switch (random.nextInt(8)) {
            case 0:
                return random.nextInt(3) - 1;
            case 1:
                return m;
            case 2:
                return m - 1;
            case 3:
                return greatNumber();
            default:
                return m + random.nextInt(9);
        }
    }

    private void gossipSome() {
        int log = log();
        int witness = witness();
        int other = witness();
        saw("gossip " + pair.gossip(witness, other, log));
        if (log == 0 || log == 1) {
            look(witness, log);
            look(other, log);
        }
    }

    private void checkSeal() {
        int log = log();
        pair.end(0);
        pair.bring(bytes(random.nextInt(10) == 0 ? 47 + random.nextInt(3) : 48));
        pair.seal(log);
        pair.again();
        spoil();
        pair.isSealed(random.nextInt(6) == 0 ? 1 - log : log);
    }

    private void strayCalls() {
        int log = log();
        switch (random.nextInt(9)) {
            case 0:
                pair.entry(log, upTo(20));
                break;
            case 1:
                pair.leaf(log, upTo(20));
                pair.end(random.nextInt(3) == 0 ? 5 : 0);
                pair.again();
                pair.find(log);
                break;
            case 2:
                pair.bring(bytes(random.nextInt(130)));
                pair.key(log);
                break;
            case 3:
                pair.end(random.nextInt(60) - 5);
                break;
            case 4:
                for (int i = random.nextInt(120); i >= 0; i--) {
                    pair.feed(random.nextInt(), random.nextInt(), i, -i, 0);
                }
                pair.again();
                break;
            case 5:
                pair.has(witness(), log, random.nextInt(5) - 1);
                break;
            case 6:
                pair.root(log, random.nextInt());
                pair.way(log, random.nextInt(), random.nextInt());
                pair.proof(log, random.nextInt(), random.nextInt());
                break;
            case 7:
                pair.isIn(random.nextLong(), random.nextLong());
                pair.isOn(random.nextLong(), random.nextLong());
                break;
            default:
                pair.follow(witness(), log);
        }
    }
}
