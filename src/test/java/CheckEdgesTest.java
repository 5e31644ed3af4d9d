import java.util.Arrays;

/** The sentences of term 3 and of promises 18 to 21: checks by those who have no LOG, and SEALS. */
public final class CheckEdgesTest {
    private static final long TOP = Long.MAX_VALUE;
    private static final long HALF = 1L << 62;

    /** What isIn(0, 8) and isOn(6, 8) are told. */
    private static final String IN_0_8 = Known.ROOTS[8] + Known.ROOTS[1] + Known.LEAF_1 + Known.ROOT_2_4
            + Known.ROOT_4_8;
    private static final String ON_6_8 = Known.ROOTS[6] + Known.ROOTS[8] + Known.ROOT_4_6 + Known.ROOT_6_8
            + Known.ROOTS[4];

    private CheckEdgesTest() {
    }

    public static void main(String[] args) {
        Sentences all = new Sentences("Term 3", "Promise 18", "Promise 19", "Promise 20", "Promise 21");
        makeSentences(all);
        checkSentences(all);
        sealSentences(all);
        all.done("CheckEdgesTest");
    }

    private static void makeSentences(Sentences all) {
        all.hold("Term 3", "WHAT DIGESTS MAKE. Of a LEAF, of i and n, with digests d1, d2, ..: the ROOT that comes "
                + "where, in the definition of the WAY, each ROOT of a FRONT or BACK that it has is the digest told in "
                + "its place", CheckEdgesTest::everySmallWay);
        all.hold("Term 3", "Of two ROOTS, of m and n: likewise, in the definition of STEPS, from outside m LEAVES "
                + "having the first ROOT told", CheckEdgesTest::fromOutside);
        all.hold("Term 3", "not from outside the digest in its place", CheckEdgesTest::notFromOutside);
        all.hold("Term 3", "the ROOT of the m LEAVES that comes so, and that of the n LEAVES",
                CheckEdgesTest::everySmallProof);
        all.hold("Term 3", "(Numbers may be as great as longs are.)", CheckEdgesTest::greatNumbers);
    }

    private static void checkSentences(Sentences all) {
        all.hold("Promise 18", "Uses the TAPE up: a ROOT, a LEAF, then digests", CheckEdgesTest::isInUsesUp);
        all.hold("Promise 18", "true if 0 <= i < n", CheckEdgesTest::isInRange);
        all.hold("Promise 18", "there are as many digests as a WAY of i and n has (and nothing behind them)",
                CheckEdgesTest::isInLength);
        all.hold("Promise 18", "and LEAF and digests make that ROOT", CheckEdgesTest::isInEveryByte);
        all.hold("Promise 19", "Uses the TAPE up: two ROOTS, then digests", CheckEdgesTest::isOnUsesUp);
        all.hold("Promise 19", "true if 0 < m <= n", CheckEdgesTest::isOnRange);
        all.hold("Promise 19", "there are as many digests as a PROOF of m and n has (and nothing behind them)",
                CheckEdgesTest::isOnLength);
        all.hold("Promise 19", "and the first ROOT and the digests make the first ROOT of m",
                CheckEdgesTest::isOnFirstRoot);
        all.hold("Promise 19", "the second one of n", CheckEdgesTest::isOnSecondRoot);
    }

    private static void sealSentences(Sentences all) {
        all.hold("Promise 20", "Uses the TAPE up, a HEAD: whether its SEAL is as by the LOG's KEY",
                CheckEdgesTest::sealedOrNot);
        all.hold("Promise 20", "IllegalArgumentException: it has not 80 bytes", CheckEdgesTest::isSealedLength);
        all.hold("Promise 21", "Uses the TAPE up: TIME, SIZE, ROOT: OUT is the HEAD of these, with the SEAL by the "
                + "LOG's KEY", CheckEdgesTest::sealShown);
        all.hold("Promise 21", "(whatever they say; the LOG does not keep it): true", CheckEdgesTest::sealsAnything);
        all.hold("Promise 21", "IllegalArgumentException: it has not 48 bytes", CheckEdgesTest::sealLength);
    }

    private static byte[] digests(int n) {
        byte[] digests = new byte[32 * n];
        for (int i = 0; i < digests.length; i++) {
            digests[i] = (byte) (i * 7 + i / 32);
        }
        return digests;
    }

    /** What isIn is told of LEAF i of n LEAVES, with digests that no LOG made. */
    private static byte[] madeWay(long i, long n) {
        byte[] digests = digests(Reference.wayDigests(i, n));
        byte[] leaf = Desk.hex(Known.SOME);
        return Reference.join(Reference.rootByWay(leaf, i, n, Reference.digestsFrom(digests, 0).iterator()), leaf,
                digests);
    }

    private static byte[] madeProof(long m, long n) {
        byte[] digests = digests(Reference.stepDigests(m, n, true));
        byte[][] roots = Reference.rootsBySteps(Desk.hex(Known.SOME), m, n, true,
                Reference.digestsFrom(digests, 0).iterator());
        return Reference.join(roots[0], roots[1], digests);
    }

    private static byte[] changedAt(byte[] told, int place) {
        byte[] changed = told.clone();
        changed[place] ^= 1;
        return changed;
    }

    private static void isInOf(byte[] told, long i, long n, boolean due) {
        Due.is("isIn(" + i + ", " + n + ") of " + told.length + " bytes", new Desk().tape(told).x.isIn(i, n), due);
    }

    private static void isOnOf(byte[] told, long m, long n, boolean due) {
        Due.is("isOn(" + m + ", " + n + ") of " + told.length + " bytes", new Desk().tape(told).x.isOn(m, n), due);
    }

    private static void everySmallWay() {
        for (int n = 1; n <= 17; n++) {
            for (int i = 0; i < n; i++) {
                byte[] told = madeWay(i, n);
                isInOf(told, i, n, true);
                isInOf(changedAt(told, told.length - 1), i, n, false);
            }
        }
    }

    private static void fromOutside() {
        // The first ROOT is nowhere else on the TAPE, and any is right if the second one is made of it.
        isOnOf(madeProof(4, 8), 4, 8, true);
        isOnOf(changedAt(madeProof(4, 8), 0), 4, 8, false);
        isOnOf(madeProof(1, 2), 1, 2, true);
        isOnOf(changedAt(madeProof(1, 2), 31), 1, 2, false);
        isOnOf(Desk.hex(Known.SOME + Known.SOME), 5, 5, true);
        isOnOf(Desk.hex(Known.SOME + Known.NEARLY), 5, 5, false);
    }

    private static void notFromOutside() {
        byte[] told = madeProof(3, 4);
        isOnOf(told, 3, 4, true);
        // The first digest is the ROOT of the part where the first 3 LEAVES end.
        isOnOf(changedAt(told, 64), 3, 4, false);
        isOnOf(changedAt(told, 95), 3, 4, false);
        isOnOf(Desk.hex(ON_6_8), 6, 8, true);
    }

    private static void everySmallProof() {
        for (int n = 1; n <= 17; n++) {
            for (int m = 1; m <= n; m++) {
                byte[] told = madeProof(m, n);
                isOnOf(told, m, n, true);
                isOnOf(changedAt(told, 0), m, n, false);
                isOnOf(changedAt(told, 32), m, n, false);
            }
        }
    }

    private static void greatNumbers() {
        long[][] ways = {{0, TOP}, {1, TOP}, {TOP - 1, TOP}, {TOP - 2, TOP}, {HALF - 1, TOP}, {HALF, TOP},
            {HALF - 1, HALF}, {0, HALF}, {HALF, HALF + 1}, {HALF - 1, HALF + 1}, {(1L << 32) - 1, 1L << 32},
            {1L << 31, (1L << 31) + 1}, {Integer.MAX_VALUE, 1L << 31}, {0x123456789abcdefL, 0x7edcba9876543210L}};
        for (long[] pair : ways) {
            byte[] told = madeWay(pair[0], pair[1]);
            isInOf(told, pair[0], pair[1], true);
            isInOf(changedAt(told, 0), pair[0], pair[1], false);
        }
        Due.is("the most digests of a WAY", madeWay(0, TOP).length, 64 + 32 * 63);
        long[][] proofs = {{1, TOP}, {TOP - 1, TOP}, {TOP, TOP}, {HALF, TOP}, {HALF - 1, TOP}, {HALF + 1, TOP},
            {HALF, HALF}, {HALF - 1, HALF}, {HALF, HALF + 1}, {HALF + 1, HALF + 2}, {1L << 32, (1L << 32) + 1},
            {(HALF >> 1) + 1, TOP}, {0x123456789abcdefL, 0x7edcba9876543210L}};
        for (long[] pair : proofs) {
            byte[] told = madeProof(pair[0], pair[1]);
            isOnOf(told, pair[0], pair[1], true);
            isOnOf(changedAt(told, 0), pair[0], pair[1], false);
            isOnOf(changedAt(told, 32), pair[0], pair[1], false);
        }
        Due.is("the most digests of a PROOF", madeProof((HALF >> 1) + 1, TOP).length, 64 + 32 * 64);
    }

    private static void isInUsesUp() {
        Aftermath.allButTape("a right one", "true", House.withTape(IN_0_8), x -> x.isIn(0, 8));
        Aftermath.allButTape("a wrong one", "false", House.withTape(IN_0_8), x -> x.isIn(1, 8));
        Aftermath.allButTape("numbers that are wrong", "false", House.withTape(IN_0_8), x -> x.isIn(8, 8));
        Aftermath.allButTape("too many bytes", "false", House.withSevens(2200), x -> x.isIn(0, 8));
        Aftermath.allButTape("no bytes", "false", House.withSevens(0), x -> x.isIn(0, 1));
        Aftermath.allButTape("a byte", "false", House.withSevens(1), x -> x.isIn(0, 1));
        // The ROOT comes first: LEAF 0 of two is not the ROOT.
        String two = Known.ROOTS[2] + Known.ROOTS[1] + Known.LEAF_1;
        isInOf(Desk.hex(two), 0, 2, true);
        isInOf(Desk.hex(Known.ROOTS[1] + Known.ROOTS[2] + Known.LEAF_1), 0, 2, false);
    }

    private static void isInRange() {
        byte[] one = Desk.hex(Known.SOME + Known.SOME);
        isInOf(one, 0, 1, true);
        long[][] wrong = {{-1, 1}, {1, 1}, {2, 1}, {0, 0}, {-1, 0}, {0, -1}, {-1, -1}, {-2, -1}, {-TOP - 1, 1},
            {-TOP - 1, TOP}, {TOP, TOP}, {TOP, -TOP - 1}, {0, -TOP - 1}, {-TOP - 1, -TOP - 1}};
        for (long[] pair : wrong) {
            isInOf(one, pair[0], pair[1], false);
        }
        isInOf(madeWay(7, 8), 7, 8, true);
        isInOf(madeWay(7, 8), 8, 8, false);
        isInOf(madeWay(7, 8), -1, 8, false);
        isInOf(madeWay(TOP - 1, TOP), TOP - 1, TOP, true);
        isInOf(madeWay(TOP - 1, TOP), TOP, TOP, false);
    }

    private static void lengths(byte[] right, int digests, java.util.function.BiConsumer<byte[], Boolean> check) {
        check.accept(right, true);
        for (int n : new int[] {0, 1, 31, 32, 33, 63, 64, right.length - 33, right.length - 32, right.length - 1}) {
            if (n >= 0 && n < right.length) {
                check.accept(Arrays.copyOf(right, n), false);
            }
        }
        for (int n : new int[] {1, 31, 32, 33, 64}) {
            check.accept(Arrays.copyOf(right, right.length + n), false);
        }
        Due.is("digests", right.length, 64 + 32 * digests);
    }

    private static void isInLength() {
        lengths(Desk.hex(IN_0_8), 3, (told, due) -> isInOf(told, 0, 8, due));
        lengths(Desk.hex(Known.SOME + Known.SOME), 0, (told, due) -> isInOf(told, 0, 1, due));
        lengths(madeWay(4, 5), 1, (told, due) -> isInOf(told, 4, 5, due));
        lengths(madeWay(3, 5), 3, (told, due) -> isInOf(told, 3, 5, due));
        lengths(madeWay(0, TOP), 63, (told, due) -> isInOf(told, 0, TOP, due));
        isInOf(new byte[2200], 0, TOP, false);
    }

    private static void isInEveryByte() {
        byte[] told = Desk.hex(IN_0_8);
        for (int place = 0; place < told.length; place++) {
            isInOf(changedAt(told, place), 0, 8, false);
        }
        for (int i = 1; i < 8; i++) {
            isInOf(told, i, 8, false);
        }
        // With one LEAF there is nothing between it and the ROOT.
        isInOf(Desk.hex(Known.SOME + Known.NEARLY), 0, 1, false);
        isInOf(Desk.hex(Known.NEARLY + Known.SOME), 0, 1, false);
    }

    private static void isOnUsesUp() {
        Aftermath.allButTape("a right one", "true", House.withTape(ON_6_8), x -> x.isOn(6, 8));
        Aftermath.allButTape("a wrong one", "false", House.withTape(ON_6_8), x -> x.isOn(7, 8));
        Aftermath.allButTape("numbers that are wrong", "false", House.withTape(ON_6_8), x -> x.isOn(0, 8));
        Aftermath.allButTape("too many bytes", "false", House.withSevens(2200), x -> x.isOn(6, 8));
        Aftermath.allButTape("no bytes", "false", House.withSevens(0), x -> x.isOn(1, 1));
        Aftermath.allButTape("a byte", "false", House.withSevens(1), x -> x.isOn(1, 1));
        // The ROOT of m comes first.
        isOnOf(Desk.hex(Known.ROOTS[1] + Known.ROOTS[2] + Known.LEAF_1), 1, 2, true);
        isOnOf(Desk.hex(Known.ROOTS[2] + Known.ROOTS[1] + Known.LEAF_1), 1, 2, false);
    }

    private static void isOnRange() {
        byte[] same = Desk.hex(Known.SOME + Known.SOME);
        isOnOf(same, 1, 1, true);
        isOnOf(same, TOP, TOP, true);
        long[][] wrong = {{0, 0}, {0, 1}, {2, 1}, {1, 0}, {-1, -1}, {-1, 1}, {1, -1}, {-2, -1}, {TOP, TOP - 1},
            {-TOP - 1, TOP}, {TOP, -TOP - 1}, {-TOP - 1, -TOP - 1}};
        for (long[] pair : wrong) {
            isOnOf(same, pair[0], pair[1], false);
        }
        isOnOf(madeProof(1, 8), 1, 8, true);
        isOnOf(madeProof(1, 8), 0, 8, false);
        isOnOf(Desk.hex(Known.NO_LEAVES + Known.ROOTS[8]), 0, 8, false);
        isOnOf(madeProof(8, 8), 8, 8, true);
        isOnOf(madeProof(8, 8), 9, 8, false);
    }

    private static void isOnLength() {
        lengths(Desk.hex(ON_6_8), 3, (told, due) -> isOnOf(told, 6, 8, due));
        lengths(Desk.hex(Known.SOME + Known.SOME), 0, (told, due) -> isOnOf(told, 9, 9, due));
        lengths(madeProof(4, 8), 1, (told, due) -> isOnOf(told, 4, 8, due));
        lengths(madeProof(4, 5), 1, (told, due) -> isOnOf(told, 4, 5, due));
        lengths(madeProof(5, 6), 3, (told, due) -> isOnOf(told, 5, 6, due));
        lengths(madeProof((HALF >> 1) + 1, TOP), 64, (told, due) -> isOnOf(told, (HALF >> 1) + 1, TOP, due));
        isOnOf(new byte[2200], (HALF >> 1) + 1, TOP, false);
    }

    private static void isOnFirstRoot() {
        byte[] told = Desk.hex(ON_6_8);
        for (int place = 0; place < 32; place++) {
            isOnOf(changedAt(told, place), 6, 8, false);
        }
        // The digests make the ROOTS of 8 LEAVES, but of other 6.
        byte[] others = Reference.join(Desk.hex(Known.SOME), Arrays.copyOfRange(told, 32, told.length));
        isOnOf(others, 6, 8, false);
        isOnOf(told, 5, 8, false);
        isOnOf(told, 7, 8, false);
    }

    private static void isOnSecondRoot() {
        byte[] told = Desk.hex(ON_6_8);
        for (int place = 32; place < told.length; place++) {
            isOnOf(changedAt(told, place), 6, 8, false);
        }
        // The second digest is in the ROOT of n alone.
        byte[] first = Arrays.copyOf(told, 32);
        byte[] swapped = Reference.join(first, first, Arrays.copyOfRange(told, 64, told.length));
        isOnOf(swapped, 6, 8, false);
        isOnOf(told, 6, 9, false);
        isOnOf(told, 6, 16, false);
    }

    private static void sealedOrNot() {
        String head = Desk.sealed(House.KEY, 7, 3, Known.ROOTS[3]);
        Aftermath.allButTape("a HEAD that the LOG has", "true", House.withTape(head), x -> x.isSealed(0));
        Aftermath.allButTape("by the other LOG's KEY", "false", House.withTape(head), x -> x.isSealed(1));
        byte[] told = Desk.hex(head);
        for (int place = 0; place < 80; place++) {
            Desk desk = new Desk();
            desk.tape(House.KEY).x.key(0);
            Due.is("changed at " + place, desk.tape(changedAt(told, place)).x.isSealed(0), false);
        }
        Desk desk = new Desk();
        String any = Desk.sealed("", Long.MIN_VALUE, -1, Known.SOME);
        Due.is("TIME and SIZE below 0", desk.tape(any).x.isSealed(0), true);
        desk.tape(House.KEY).x.key(0);
        Due.is("by the KEY before", desk.tape(any).x.isSealed(0), false);
        Due.is("by the KEY just now", desk.tape(head).x.isSealed(0), true);
        // HMAC pads a KEY with zeros, so these are one KEY to it.
        desk.tape(House.KEY + "00").x.key(0);
        Due.is("by a KEY with a zero behind it", desk.tape(head).x.isSealed(0), true);
    }

    private static void isSealedLength() {
        for (int n : new int[] {0, 1, 48, 79, 81, 112, 2200}) {
            Aftermath.allButTape(n + " bytes", Due.NO_ARGUMENT, House.withSevens(n), x -> x.isSealed(0));
        }
        Due.is("80 bytes", new Desk().sevens(80).x.isSealed(0), false);
        String head = Desk.sealed("", 7, 3, Known.SOME);
        Due.raises("a HEAD and a byte", Due.NO_ARGUMENT, () -> new Desk().tape(head + "00").x.isSealed(0));
        Due.raises("a HEAD but its last byte", Due.NO_ARGUMENT,
                () -> new Desk().tape(head.substring(0, 158)).x.isSealed(0));
    }

    private static void sealShown() {
        Desk desk = new Desk();
        House.furnish(desk);
        String told = Desk.text(Reference.numbers(1, 2)) + Known.SOME;
        Due.is("seal", desk.tape(told).x.seal(0), true);
        Due.is("whether the TAPE is empty", desk.tapeIsEmpty(), true);
        Due.is("bytes", desk.x.outs(), 80);
        Due.is("by the KEY", desk.out(), Desk.sealed(House.KEY, 1, 2, Known.SOME));
        desk.tape(told).x.seal(1);
        Due.is("by no KEY", desk.out(), Desk.sealed("", 1, 2, Known.SOME));
        Desk longKey = new Desk();
        longKey.sevens(100).x.key(1);
        longKey.tape(told).x.seal(1);
        Due.is("by a KEY of 100", longKey.out(), Desk.sealed("07".repeat(100), 1, 2, Known.SOME));
    }

    private static void sealsAnything() {
        for (long[] pair : new long[][] {{-1, -1}, {-TOP - 1, TOP}, {TOP, -TOP - 1}, {0, 0}}) {
            Desk desk = new Desk();
            House.furnish(desk);
            String told = Desk.text(Reference.numbers(pair[0], pair[1])) + Known.OTHER;
            Due.is("seal", desk.tape(told).x.seal(0), true);
            Due.is("the HEAD", desk.out(), Desk.sealed(House.KEY, pair[0], pair[1], Known.OTHER));
        }
        // All but TAPE and OUT is as if another call had brought this OUT.
        String told = Desk.text(Reference.numbers(6, 4)) + Known.OTHER;
        Aftermath.sameAs("the LOG does not keep it", "true", House.withTape(told), x -> x.seal(0), desk -> {
            desk.x.end(0);
            desk.x.has(1, 0, 0);
        });
    }

    private static void sealLength() {
        for (int n : new int[] {0, 1, 47, 49, 80, 2200}) {
            Aftermath.allButTape(n + " bytes", Due.NO_ARGUMENT, House.withSevens(n), x -> x.seal(0));
        }
        Due.is("48 bytes", new Desk().sevens(48).x.seal(0), true);
    }
}
