import java.util.ArrayList;
import java.util.List;

/** The sentences of terms 1 and 2 and of promises 15 to 17: digests, trees, and what is written of them. */
public final class TreeEdgesTest {
    private TreeEdgesTest() {
    }

    public static void main(String[] args) {
        Sentences all = new Sentences("Term 1", "Term 2", "Promise 15", "Promise 16", "Promise 17");
        digestSentences(all);
        pathSentences(all);
        logSentences(all);
        callSentences(all);
        all.done("TreeEdgesTest");
    }

    private static void digestSentences(Sentences all) {
        all.hold("Term 1", "DIGESTS have 32 bytes", TreeEdgesTest::digestsHave32);
        all.hold("Term 1", "H is SHA-256 (FIPS 180-4)", TreeEdgesTest::everyLength);
        all.hold("Term 1", "The LEAF of an ENTRY is H of a byte 0 and the ENTRY", TreeEdgesTest::leafOfNoneAndMost);
        all.hold("Term 1", "NODE(a, b) is H of a byte 1, a and b", TreeEdgesTest::nodeOfTwo);
        all.hold("Term 1", "For n LEAVES in a row, n above 1, let k be the greatest power of 2 that is below n: "
                + "the FRONT is the first k of them, the BACK the others", TreeEdgesTest::fronts);
        all.hold("Term 1", "ROOT of n LEAVES: of none H of no bytes", () -> rootIs(0));
        all.hold("Term 1", "of one that LEAF", () -> rootIs(1));
        all.hold("Term 1", "else NODE(ROOT of the FRONT, ROOT of the BACK)", TreeEdgesTest::everyRoot);
    }

    private static void pathSentences(Sentences all) {
        all.hold("Term 1", "WAY of LEAF i (from 0 on) of n LEAVES: no digests for n 1", TreeEdgesTest::wayOfOne);
        all.hold("Term 1", "for i below k the WAY of LEAF i of the FRONT, then the ROOT of the BACK",
                TreeEdgesTest::wayInFront);
        all.hold("Term 1", "else the WAY of LEAF i - k of the BACK, then the ROOT of the FRONT",
                TreeEdgesTest::wayInBack);
        all.hold("Term 1", "PROOF of m and n (0 < m <= n) is STEPS of m and n from outside", TreeEdgesTest::everyProof);
        all.hold("Term 1", "STEPS: of m and m from outside no digests", TreeEdgesTest::proofOfAll);
        all.hold("Term 1", "not from outside the ROOT of these m", TreeEdgesTest::proofEndsInBack);
        all.hold("Term 1", "else, for m not above k, STEPS of m of the FRONT (from outside, if it was so), "
                + "then the ROOT of the BACK", TreeEdgesTest::proofInFront);
        all.hold("Term 1", "for m above k STEPS of m - k of the BACK, not from outside, then the ROOT of the FRONT",
                TreeEdgesTest::proofInBack);
    }

    private static void logSentences(Sentences all) {
        all.hold("Term 2", "A LOG (0, 1) has a KEY (no bytes at first)", TreeEdgesTest::keyAtFirst);
        all.hold("Term 2", "ENTRIES (0 to 120 bytes each", TreeEdgesTest::entryLengths);
        all.hold("Term 2", "at most 200", TreeEdgesTest::atMost200);
        all.hold("Term 2", "numbered from 0 on as they came", TreeEdgesTest::numbered);
        all.hold("Term 2", "none twice)", TreeEdgesTest::noneTwice);
        all.hold("Term 2", "and HEADS (at most 40, numbered from 0 on)", TreeEdgesTest::atMost40);
        all.hold("Term 2", "The first ones, SIZE many, are in its TREE; the others WAIT", TreeEdgesTest::sizeMany);
        all.hold("Term 2", "A HEAD: TIME and SIZE (eight bytes each, the highest first), ROOT, SEAL",
                TreeEdgesTest::headBytes);
        all.hold("Term 2", "SEAL is HMAC-SHA-256 (RFC 2104) with the KEY of 50 bytes: 0, 1, TIME, SIZE, ROOT",
                TreeEdgesTest::sealByEveryKey);
    }

    private static void callSentences(Sentences all) {
        all.hold("Promise 15", "OUT is the ROOT of the first n LEAVES of the TREE: true", TreeEdgesTest::rootShown);
        all.hold("Promise 15", "NoSuchElementException: n is not 0 to SIZE", TreeEdgesTest::noRoot);
        all.hold("Promise 16", "OUT is the WAY of LEAF i of the first n LEAVES: how many digests",
                TreeEdgesTest::everyWay);
        all.hold("Promise 16", "NoSuchElementException: not 0 <= i < n <= SIZE", TreeEdgesTest::noWay);
        all.hold("Promise 17", "OUT is the PROOF of m and n, of the first n LEAVES: how many digests",
                TreeEdgesTest::proofShown);
        all.hold("Promise 17", "NoSuchElementException: not 0 < m <= n <= SIZE", TreeEdgesTest::noProof);
    }

    /** LOG 0 with the known ENTRIES, all in its TREE, and another one that WAITS. */
    private static Desk known() {
        Desk desk = new Desk();
        knownScene(desk);
        return desk;
    }

    private static void knownScene(Desk desk) {
        for (String entry : Known.ENTRIES) {
            desk.submit(0, entry);
        }
        desk.x.cut(0, 5);
        desk.submit(0, "aabb");
    }

    /** The LEAVES that House.fill makes. */
    private static List<byte[]> leaves(int n) {
        List<byte[]> leaves = new ArrayList<>();
        for (int i = 0; i < n; i++) {
            leaves.add(Reference.leaf(java.nio.ByteBuffer.allocate(20).putInt(i).array()));
        }
        return leaves;
    }

    /** LOG 0 with n ENTRIES in its TREE; what is asked of it should be few calls, if n is great. */
    private static Desk filled(int n) {
        Desk desk = new Desk();
        House.fill(desk.x, 0, n);
        desk.x.cut(0, 0);
        return desk;
    }

    private static void wayIs(Desk desk, int i, int n, String digests) {
        Due.is("how many digests way(" + i + ", " + n + ") has", desk.x.way(0, i, n), digests.length() / 64);
        Due.is("way(" + i + ", " + n + ")", desk.out(), digests);
    }

    private static void proofIs(Desk desk, int m, int n, String digests) {
        Due.is("how many digests proof(" + m + ", " + n + ") has", desk.x.proof(0, m, n), digests.length() / 64);
        Due.is("proof(" + m + ", " + n + ")", desk.out(), digests);
    }

    private static void digestsHave32() {
        Desk desk = known();
        desk.x.leaf(0, 0);
        Due.is("a LEAF", desk.x.outs(), 32);
        desk.x.root(0, 0);
        Due.is("a ROOT of none", desk.x.outs(), 32);
        desk.x.root(0, 8);
        Due.is("a ROOT of 8", desk.x.outs(), 32);
        Due.is("digests of a WAY", desk.x.way(0, 0, 8), 3);
        Due.is("its bytes", desk.x.outs(), 96);
    }

    /** A message's last block is full, or has no room for the length any more, at some of these. */
    private static void everyLength() {
        for (int n = 0; n <= 120; n++) {
            byte[] entry = new byte[n];
            for (int i = 0; i < n; i++) {
                entry[i] = (byte) (255 - 2 * i);
            }
            Desk desk = new Desk();
            desk.tape(entry).x.submit(0);
            desk.x.leaf(0, 0);
            Due.is("LEAF of " + n + " bytes", desk.out(), Desk.text(Reference.leaf(entry)));
        }
    }

    private static void leafOfNoneAndMost() {
        Desk desk = new Desk();
        desk.submit(0, "");
        desk.sevens(120).x.submit(0);
        desk.x.leaf(0, 0);
        Due.is("LEAF of no bytes", desk.out(), Desk.text(Reference.hash(new byte[] {0})));
        desk.x.leaf(0, 1);
        Due.is("LEAF of 120 bytes", desk.out(), Desk.text(Reference.hash(Desk.hex("00" + "07".repeat(120)))));
    }

    private static void nodeOfTwo() {
        Desk desk = known();
        desk.x.root(0, 2);
        Due.is("ROOT of two", desk.out(),
                Desk.text(Reference.hash(Desk.hex("01" + Known.ROOTS[1] + Known.LEAF_1))));
    }

    /** The last digest of the WAY of LEAF 0 is the ROOT of the BACK, that of the last LEAF the ROOT of the FRONT. */
    private static void fronts() {
        int[][] frontOf = {{2, 1}, {3, 2}, {4, 2}, {5, 4}, {8, 4}, {9, 8}, {16, 8}, {17, 16}, {32, 16}, {33, 32},
            {64, 32}, {65, 64}, {128, 64}, {129, 128}, {200, 128}};
        for (int[] pair : frontOf) {
            int n = pair[0];
            int k = pair[1];
            Desk desk = filled(n);
            int digests = desk.x.way(0, n - 1, n);
            List<byte[]> leaves = leaves(n);
            byte[] front = Reference.root(leaves.subList(0, k));
            Due.is("FRONT of " + n, desk.x.out(32 * digests - 32), front[0] & 255);
            Due.is("FRONT of " + n, desk.x.out(32 * digests - 1), front[31] & 255);
            byte[] back = Reference.root(leaves.subList(k, n));
            digests = desk.x.way(0, 0, n);
            Due.is("BACK of " + n, desk.x.out(32 * digests - 32), back[0] & 255);
            Due.is("BACK of " + n, desk.x.out(32 * digests - 1), back[31] & 255);
        }
    }

    private static void rootIs(int n) {
        Desk desk = known();
        desk.x.root(0, n);
        Due.is("ROOT of " + n, desk.out(), Known.ROOTS[n]);
        Desk exact = new Desk();
        for (int i = 0; i < n; i++) {
            exact.submit(0, Known.ENTRIES[i]);
        }
        exact.x.cut(0, 5);
        exact.x.head(0, 0);
        Due.is("HEAD of " + n, exact.out(), Desk.sealed("", 5, n, Known.ROOTS[n]));
    }

    private static void everyRoot() {
        for (int n = 2; n <= 8; n++) {
            rootIs(n);
        }
        List<byte[]> leaves = leaves(200);
        for (int first = 0; first <= 200; first += 16) {
            Desk desk = filled(200);
            // isIn of one LEAF compares all 32 bytes by one call, for an object has only 512.
            for (int n = first; n < first + 16 && n <= 200; n++) {
                desk.x.root(0, n);
                desk.x.again();
                desk.bring(Reference.root(leaves.subList(0, n)), 32);
                Due.is("whether the ROOT of " + n + " is right", desk.x.isIn(0, 1), true);
            }
        }
    }

    private static void wayOfOne() {
        wayIs(known(), 0, 1, "");
        Desk desk = new Desk();
        desk.submit(0, "aa");
        desk.x.cut(0, 0);
        desk.x.leaf(0, 0);
        wayIs(desk, 0, 1, "");
    }

    private static void wayInFront() {
        Desk desk = known();
        wayIs(desk, 0, 2, Known.LEAF_1);
        wayIs(desk, 0, 8, Known.LEAF_1 + Known.ROOT_2_4 + Known.ROOT_4_8);
        // The last LEAF of the FRONT.
        wayIs(known(), 3, 5, Desk.text(Reference.leaf(Desk.hex(Known.ENTRIES[2]))) + Known.ROOTS[2] + Known.LEAF_4);
        wayIs(known(), 1, 3, Known.ROOTS[1] + Desk.text(Reference.leaf(Desk.hex(Known.ENTRIES[2]))));
    }

    private static void wayInBack() {
        Desk desk = known();
        // The first LEAF of the BACK, which in the first two is all of it.
        wayIs(desk, 1, 2, Known.ROOTS[1]);
        wayIs(desk, 4, 5, Known.ROOTS[4]);
        wayIs(desk, 2, 4, Desk.text(Reference.leaf(Desk.hex(Known.ENTRIES[3]))) + Known.ROOTS[2]);
        wayIs(known(), 5, 8, Known.LEAF_4 + Known.ROOT_6_8 + Known.ROOTS[4]);
    }

    private static List<byte[]> knownLeaves(int n) {
        List<byte[]> leaves = new ArrayList<>();
        for (int i = 0; i < n; i++) {
            leaves.add(Reference.leaf(Desk.hex(Known.ENTRIES[i])));
        }
        return leaves;
    }

    private static void everyProof() {
        for (int n = 1; n <= 8; n++) {
            for (int m = 1; m <= n; m++) {
                proofIs(known(), m, n, Desk.text(Reference.join(Reference.steps(m, knownLeaves(n), true))));
            }
        }
        int[][] pairs = {{1, 200}, {2, 200}, {63, 64}, {64, 65}, {65, 128}, {127, 128}, {128, 129}, {127, 200},
            {128, 200}, {129, 200}, {191, 200}, {192, 200}, {193, 200}, {199, 200}, {200, 200}};
        for (int[] pair : pairs) {
            Desk desk = filled(pair[1]);
            List<byte[]> due = Reference.steps(pair[0], leaves(pair[1]), true);
            Due.is("digests of " + pair[0] + " and " + pair[1], desk.x.proof(0, pair[0], pair[1]), due.size());
            Due.is("their bytes", desk.x.outs(), 32 * due.size());
            for (int i = 0; i < due.size(); i++) {
                Due.is("first byte of digest " + i, desk.x.out(32 * i), due.get(i)[0] & 255);
                Due.is("last byte of digest " + i, desk.x.out(32 * i + 31), due.get(i)[31] & 255);
            }
        }
    }

    private static void proofOfAll() {
        for (int n : new int[] {1, 2, 3, 7, 8}) {
            proofIs(known(), n, n, "");
        }
        // From outside all the way down: the first 4 are told by their ROOT alone.
        proofIs(known(), 4, 8, Known.ROOT_4_8);
        proofIs(known(), 4, 5, Known.LEAF_4);
    }

    private static void proofEndsInBack() {
        String leaf2 = Desk.text(Reference.leaf(Desk.hex(Known.ENTRIES[2])));
        String leaf3 = Desk.text(Reference.leaf(Desk.hex(Known.ENTRIES[3])));
        proofIs(known(), 3, 4, leaf2 + leaf3 + Known.ROOTS[2]);
        proofIs(known(), 6, 8, Known.ROOT_4_6 + Known.ROOT_6_8 + Known.ROOTS[4]);
    }

    private static void proofInFront() {
        // m is k, and m is one below k.
        proofIs(known(), 2, 3, Desk.text(Reference.leaf(Desk.hex(Known.ENTRIES[2]))));
        proofIs(known(), 1, 3, Known.LEAF_1 + Desk.text(Reference.leaf(Desk.hex(Known.ENTRIES[2]))));
        proofIs(known(), 2, 5, Known.ROOT_2_4 + Known.LEAF_4);
        proofIs(known(), 1, 8, Known.LEAF_1 + Known.ROOT_2_4 + Known.ROOT_4_8);
    }

    private static void proofInBack() {
        // m is one above k.
        String leaf5 = Desk.text(Reference.leaf(Desk.hex(Known.ENTRIES[5])));
        proofIs(known(), 5, 6, Known.LEAF_4 + leaf5 + Known.ROOTS[4]);
        proofIs(known(), 5, 8, Known.LEAF_4 + leaf5 + Known.ROOT_6_8 + Known.ROOTS[4]);
    }

    private static void keyAtFirst() {
        for (int log = 0; log < 2; log++) {
            Desk desk = new Desk();
            Due.is("bytes of the KEY", desk.x.size(log, 3), 0);
            desk.x.cut(log, 9);
            desk.x.head(log, 0);
            Due.is("a HEAD by no KEY", desk.out(), Desk.sealed("", 9, 0, Known.NO_LEAVES));
        }
    }

    private static void entryLengths() {
        Desk desk = new Desk();
        Due.is("0 bytes", desk.x.submit(1), 0);
        Due.is("120 bytes", desk.sevens(120).x.submit(1), 1);
        Due.raises("121 bytes", Due.NO_ARGUMENT, () -> desk.sevens(121).x.submit(1));
        Due.is("bytes of the first", desk.x.entry(1, 0), 0);
        Due.is("bytes of the second", desk.x.entry(1, 1), 120);
    }

    private static void atMost200() {
        LeafWitness x = new LeafWitness();
        House.fill(x, 1, 199);
        Due.is("the last", x.submit(1), 199);
        x.feed(1, 1, 1, 1, 1);
        Due.raises("one more", Due.NO_STATE, () -> x.submit(1));
        // The other LOG has room of its own.
        x.feed(1, 1, 1, 1, 1);
        Due.is("the other LOG", x.submit(0), 0);
    }

    private static void numbered() {
        LeafWitness x = new LeafWitness();
        for (int i = 0; i < 200; i++) {
            x.feed(1000 - i, 0, 0, 0, 0);
            Due.is("the number", x.submit(0), i);
        }
        for (int i : new int[] {0, 1, 198, 199}) {
            x.entry(0, i);
            Due.is("ENTRY " + i, 256 * x.out(2) + x.out(3), 1000 - i);
        }
    }

    private static void noneTwice() {
        Desk desk = new Desk();
        for (int round = 0; round < 3; round++) {
            Due.is("the first", desk.submit(0, "00"), 0);
            Due.is("the second", desk.submit(0, ""), 1);
            Due.is("ENTRIES", desk.x.size(0, 0), 2);
            desk.x.cut(0, 0);
            Due.is("SIZE", desk.x.size(0, 1), 2);
        }
    }

    private static void atMost40() {
        LeafWitness x = new LeafWitness();
        for (int k = 0; k < 40; k++) {
            x.feed(k, 0, 0, 0, 0);
            x.submit(1);
            Due.is("the number", x.cut(1, k), k);
        }
        Due.raises("one more", Due.NO_STATE, () -> x.cut(1, 40));
        Due.is("the other LOG", x.cut(0, 0), 0);
        for (int k : new int[] {0, 1, 38, 39}) {
            Due.is("SIZE of HEAD " + k, x.head(1, k), k + 1);
            Due.is("TIME of HEAD " + k, x.out(7), k);
        }
    }

    private static void sizeMany() {
        Desk desk = new Desk();
        for (int size = 0; size < 4; size++) {
            for (int i = 0; i < size; i++) {
                Due.is("whether " + i + " of " + size + " is in the TREE", desk.x.leaf(0, i), true);
            }
            desk.submit(0, Known.ENTRIES[size]);
            Due.is("whether the next is in the TREE", desk.x.leaf(0, size), false);
            desk.x.cut(0, 0);
        }
    }

    private static void headBytes() {
        Desk desk = new Desk();
        House.fill(desk.x, 0, 129);
        desk.x.cut(0, 0x0102030405060708L);
        desk.x.head(0, 0);
        String head = desk.out();
        Due.is("TIME and SIZE", head.substring(0, 32), "0102030405060708" + "0000000000000081");
        Due.is("ROOT", head.substring(32, 96), Desk.text(Reference.root(leaves(129))));
        Due.is("how many digits", head.length(), 160);
        Desk small = new Desk();
        small.x.cut(0, 255);
        small.x.cut(0, 256);
        small.x.cut(0, Long.MAX_VALUE);
        String[] times = {"00000000000000ff", "0000000000000100", "7fffffffffffffff"};
        for (int k = 0; k < 3; k++) {
            small.x.head(0, k);
            Due.is("TIME", small.out().substring(0, 16), times[k]);
        }
    }

    /** A KEY of more than 64 bytes is hashed first. */
    private static void sealByEveryKey() {
        for (int n = 0; n <= 100; n++) {
            byte[] key = new byte[n];
            for (int i = 0; i < n; i++) {
                key[i] = (byte) (200 + i);
            }
            Desk desk = new Desk();
            desk.tape(key).x.key(0);
            desk.x.cut(0, 77);
            desk.x.head(0, 0);
            Due.is("a HEAD by a KEY of " + n, desk.out(), Desk.sealed(Desk.text(key), 77, 0, Known.NO_LEAVES));
        }
    }

    private static void rootShown() {
        Desk desk = known();
        desk.tape("0102");
        for (int n : new int[] {0, 1, 7, 8}) {
            Due.is("root(" + n + ")", desk.x.root(0, n), true);
            Due.is("ROOT of " + n, desk.out(), Known.ROOTS[n]);
        }
        Due.is("the TAPE's length", Aftermath.tapeLength(desk.x), 2);
        Due.is("root of an empty TREE", desk.x.root(1, 0), true);
        Due.is("ROOT of an empty TREE", desk.out(), Known.NO_LEAVES);
        Desk full = filled(200);
        full.x.root(0, 200);
        Due.is("ROOT of 200", full.out(), Desk.text(Reference.root(leaves(200))));
    }

    private static void noRoot() {
        for (int n : new int[] {-1, 9, 10, 200, Integer.MIN_VALUE, Integer.MAX_VALUE}) {
            // ENTRY 8 is there, but it WAITS.
            Aftermath.all("n " + n + " of SIZE 8", Due.NO_ELEMENT, TreeEdgesTest::knownScene, x -> x.root(0, n));
        }
        Aftermath.all("n 1 of SIZE 0", Due.NO_ELEMENT, House.withSevens(3), x -> x.root(1, 1));
        Due.raises("n 201 of SIZE 200", Due.NO_ELEMENT, () -> filled(200).x.root(0, 201));
    }

    private static void everyWay() {
        for (int n = 1; n <= 8; n++) {
            for (int i = 0; i < n; i++) {
                wayIs(known(), i, n, Desk.text(Reference.join(Reference.way(i, knownLeaves(n)))));
            }
        }
        Desk desk = filled(200);
        int[][] pairs = {{0, 200}, {127, 200}, {128, 200}, {199, 200}, {191, 200}, {192, 200}, {127, 128}, {128, 129}};
        for (int[] pair : pairs) {
            List<byte[]> due = Reference.way(pair[0], leaves(pair[1]));
            Due.is("digests of " + pair[0] + " of " + pair[1], desk.x.way(0, pair[0], pair[1]), due.size());
            Due.is("their bytes", desk.x.outs(), 32 * due.size());
            Due.is("the first byte", desk.x.out(0), due.get(0)[0] & 255);
            Due.is("the last byte", desk.x.out(32 * due.size() - 1), due.get(due.size() - 1)[31] & 255);
        }
    }

    private static void noWay() {
        int[][] none = {{-1, 8}, {8, 8}, {9, 8}, {0, 0}, {0, 9}, {8, 9}, {0, -1}, {-1, -1}, {-2, -1}, {-1, 0},
            {Integer.MIN_VALUE, 8}, {0, Integer.MAX_VALUE}, {0, Integer.MIN_VALUE},
            {Integer.MIN_VALUE, Integer.MAX_VALUE}, {Integer.MAX_VALUE, Integer.MIN_VALUE}};
        for (int[] pair : none) {
            Aftermath.all("way(" + pair[0] + ", " + pair[1] + ") of SIZE 8", Due.NO_ELEMENT,
                    TreeEdgesTest::knownScene, x -> x.way(0, pair[0], pair[1]));
        }
        Aftermath.all("of SIZE 0", Due.NO_ELEMENT, House.withSevens(3), x -> x.way(1, 0, 1));
        Desk full = filled(200);
        Due.raises("n 201 of SIZE 200", Due.NO_ELEMENT, () -> full.x.way(0, 0, 201));
        Due.raises("i 200 of SIZE 200", Due.NO_ELEMENT, () -> full.x.way(0, 200, 200));
    }

    private static void proofShown() {
        Desk desk = known();
        desk.tape("0102");
        proofIs(desk, 1, 1, "");
        proofIs(desk, 7, 7, "");
        proofIs(desk, 6, 8, Known.ROOT_4_6 + Known.ROOT_6_8 + Known.ROOTS[4]);
        proofIs(desk, 8, 8, "");
        Due.is("the TAPE's length", Aftermath.tapeLength(desk.x), 2);
        Desk full = filled(200);
        Due.is("the longest", full.x.proof(0, 127, 200), 9);
        Due.is("its bytes", full.x.outs(), 288);
        Due.is("200 and 200", full.x.proof(0, 200, 200), 0);
        Due.is("its bytes", full.x.outs(), 0);
        Due.is("1 and 200", full.x.proof(0, 1, 200), 8);
    }

    private static void noProof() {
        int[][] none = {{0, 8}, {-1, 8}, {9, 8}, {8, 7}, {1, 9}, {8, 9}, {9, 9}, {0, 0}, {1, 0}, {0, 1}, {-1, -1},
            {-2, -1}, {Integer.MIN_VALUE, 8}, {1, Integer.MAX_VALUE}, {1, Integer.MIN_VALUE},
            {Integer.MIN_VALUE, Integer.MIN_VALUE}, {Integer.MAX_VALUE, Integer.MAX_VALUE}};
        for (int[] pair : none) {
            Aftermath.all("proof(" + pair[0] + ", " + pair[1] + ") of SIZE 8", Due.NO_ELEMENT,
                    TreeEdgesTest::knownScene, x -> x.proof(0, pair[0], pair[1]));
        }
        Aftermath.all("of SIZE 0", Due.NO_ELEMENT, House.withSevens(3), x -> x.proof(1, 1, 1));
        Desk full = filled(200);
        Due.raises("n 201 of SIZE 200", Due.NO_ELEMENT, () -> full.x.proof(0, 1, 201));
        Due.raises("201 and 201 of SIZE 200", Due.NO_ELEMENT, () -> full.x.proof(0, 201, 201));
    }
}
