/** The sentences of term 4 and of promises 22 to 24: WITNESSES, what they take, and what they keep. */
public final class WitnessEdgesTest {
    private static final long TOP = Long.MAX_VALUE;
    private static final String KEY = House.KEY;
    private static final String NO_SUCH = "IndexOutOfBoundsException: no such WITNESS or LOG";

    private WitnessEdgesTest() {
    }

    public static void main(String[] args) {
        Sentences all = new Sentences("Term 4", "Promise 22", "Promise 23", "Promise 24");
        termSentences(all);
        followSentences(all);
        gossipSentences(all);
        hasSentences(all);
        all.done("WitnessEdgesTest");
    }

    private static void termSentences(Sentences all) {
        all.hold("Term 4", "WITNESSES 0 to 3", WitnessEdgesTest::witnesses0To3);
        all.hold("Term 4", "Each may have, of each LOG, a HEAD, the latest one that it took",
                WitnessEdgesTest::latestOfEachLog);
        all.hold("Term 4", "and EVIDENCE, two HEADS", WitnessEdgesTest::evidenceOfEachLog);
        all.hold("Term 4", "follow(): the first of these that holds: 1 the SEAL is not as by the LOG's KEY just now",
                WitnessEdgesTest::verdict1BySeal);
        all.hold("Term 4", "or TIME or SIZE is below 0", WitnessEdgesTest::verdict1ByNumbers);
        all.hold("Term 4", "then, if it has a HEAD: 2 SIZE is below that one's", WitnessEdgesTest::verdict2);
        all.hold("Term 4", "3 a SPLIT: SIZE is the same, the ROOT another one", WitnessEdgesTest::verdict3);
        all.hold("Term 4", "(if it has no EVIDENCE of this LOG yet, its HEAD and this one are that)",
                WitnessEdgesTest::evidenceOnce);
        all.hold("Term 4", "4 the digests are not right: there must be none, if it has no HEAD",
                WitnessEdgesTest::verdict4WithoutHead);
        all.hold("Term 4", "or one of this SIZE or of SIZE 0", WitnessEdgesTest::verdict4WhereNoneIsDue);
        all.hold("Term 4", "else isOn() must accept them with both ROOTS and SIZES",
                WitnessEdgesTest::verdict4ByProof);
        all.hold("Term 4", "5 TIME is below that one's", WitnessEdgesTest::verdict5);
        all.hold("Term 4", "Else 0: it has this HEAD", WitnessEdgesTest::verdict0);
    }

    private static void followSentences(Sentences all) {
        all.hold("Promise 22", "Uses the TAPE up: a HEAD, then digests: a WITNESS is told of a LOG's HEAD: "
                + "0 to 5 as told in 4", WitnessEdgesTest::followUsesUp);
        all.hold("Promise 22", NO_SUCH, WitnessEdgesTest::followNoSuch);
        all.hold("Promise 22", "IllegalArgumentException: it has fewer than 80 bytes",
                WitnessEdgesTest::followTooShort);
        all.hold("Promise 22", "or what is behind them are no whole digests", WitnessEdgesTest::followNotWhole);
    }

    private static void gossipSentences(Sentences all) {
        all.hold("Promise 23", "Two WITNESSES (perhaps the same) tell each other their HEADS of a LOG: 0 one has none",
                WitnessEdgesTest::gossipOfNone);
        all.hold("Promise 23", "or both are of one SIZE and ROOT", WitnessEdgesTest::gossipOfOne);
        all.hold("Promise 23", "1 the first one's SIZE is the greater one", () -> gossipOfSizes(true));
        all.hold("Promise 23", "2 the second one's", () -> gossipOfSizes(false));
        all.hold("Promise 23", "3 a SPLIT: one SIZE, unlike ROOTS", WitnessEdgesTest::gossipOfSplit);
        all.hold("Promise 23", "each that has no EVIDENCE of this LOG yet has both as that",
                WitnessEdgesTest::gossipEvidence);
        all.hold("Promise 23", "(the first WITNESS' one first)", WitnessEdgesTest::gossipOrder);
        all.hold("Promise 23", NO_SUCH, WitnessEdgesTest::gossipNoSuch);
    }

    private static void hasSentences(Sentences all) {
        all.hold("Promise 24", "OUT is the HEAD (80 bytes) that a WITNESS has of a LOG (which 0)",
                WitnessEdgesTest::hasHead);
        all.hold("Promise 24", "the first (1) or second (2) of its EVIDENCE: true", WitnessEdgesTest::hasEvidence);
        all.hold("Promise 24", "IndexOutOfBoundsException likewise", WitnessEdgesTest::hasNoSuch);
        all.hold("Promise 24", "NoSuchElementException: there is none such", WitnessEdgesTest::hasNone);
        all.hold("Promise 24", "or another which", WitnessEdgesTest::hasAnother);
    }

    private static String head(long time, long size, String root) {
        return Desk.sealed(KEY, time, size, root);
    }

    /** LOG 0 has the KEY; no WITNESS has anything. */
    private static Desk keyed() {
        Desk desk = new Desk();
        desk.tape(KEY).x.key(0);
        return desk;
    }

    private static int follow(Desk desk, int witness, String told) {
        return desk.tape(told).x.follow(witness, 0);
    }

    /** The answer is due, and of the house nothing changed but the TAPE. */
    private static void refused(String what, int due, int witness, String told) {
        Aftermath.allButTape(what, String.valueOf(due), House.withTape(told), x -> x.follow(witness, 0));
    }

    /** The WITNESS of the house takes the HEAD, and shows it. */
    private static void taken(String what, int witness, String told) {
        Desk desk = new Desk();
        House.furnish(desk);
        Due.is(what, follow(desk, witness, told), 0);
        shows(what, desk, witness, 0, 0, told.substring(0, 160));
    }

    private static void shows(String what, Desk desk, int witness, int log, int which, String due) {
        String place = "has(" + witness + ", " + log + ", " + which + ")";
        Due.is(what + ", " + place, desk.x.has(witness, log, which), true);
        Due.is(what + ", OUT of " + place, desk.out(), due);
    }

    private static void witnesses0To3() {
        Desk desk = keyed();
        for (int witness = 0; witness < 4; witness++) {
            Due.is("WITNESS " + witness, follow(desk, witness, head(1, witness + 1, Known.SOME)), 0);
        }
        for (int witness = 0; witness < 4; witness++) {
            desk.x.has(witness, 0, 0);
            Due.is("its SIZE", desk.x.out(15), witness + 1);
        }
        for (int witness : Known.NO_WITNESSES) {
            Due.raises("WITNESS " + witness, Due.NO_INDEX, () -> follow(desk, witness, head(1, 9, Known.SOME)));
        }
    }

    private static void latestOfEachLog() {
        Desk desk = new Desk();
        String[] heads = {Desk.sealed("", 1, 1, Known.SOME), Desk.sealed("", 2, 2, Known.OTHER)};
        for (int log = 0; log < 2; log++) {
            Due.is("LOG " + log, desk.tape(heads[log]).x.follow(3, log), 0);
        }
        for (int log = 0; log < 2; log++) {
            shows("each LOG's", desk, 3, log, 0, heads[log]);
        }
        Desk other = new Desk();
        other.tape(heads[1]).x.follow(0, 1);
        Due.raises("of the other LOG", Due.NO_ELEMENT, () -> other.x.has(0, 0, 0));
        String later = Desk.sealed("", 3, 2, Known.OTHER);
        other.tape(later).x.follow(0, 1);
        shows("the latest", other, 0, 1, 0, later);
        other.tape(heads[1]).x.follow(0, 1);
        shows("the latest that it took", other, 0, 1, 0, later);
    }

    private static void evidenceOfEachLog() {
        Desk desk = new Desk();
        for (int log = 0; log < 2; log++) {
            desk.tape(Desk.sealed("", log, 5, Known.SOME)).x.follow(2, log);
            Due.is("a split of LOG " + log, desk.tape(Desk.sealed("", log, 5, Known.OTHER)).x.follow(2, log), 3);
            shows("EVIDENCE", desk, 2, log, 1, Desk.sealed("", log, 5, Known.SOME));
            shows("EVIDENCE", desk, 2, log, 2, Desk.sealed("", log, 5, Known.OTHER));
        }
    }

    private static void verdict1BySeal() {
        String good = head(9, 9, Known.SOME);
        for (int place : new int[] {48, 49, 63, 78, 79}) {
            byte[] changed = Desk.hex(good);
            changed[place] ^= (byte) (place % 2 == 0 ? 0x80 : 1);
            refused("changed at " + place, 1, 3, Desk.text(changed));
        }
        refused("by no KEY", 1, 3, Desk.sealed("", 9, 9, Known.SOME));
        // It comes before all the others: the SIZE is smaller, the ROOT is another, the digests and TIME are wrong.
        refused("before 2", 1, 0, Desk.sealed("", 9, 3, Known.SOME));
        refused("before 3", 1, 0, Desk.sealed("", 9, 4, Known.SOME));
        refused("before 3, without EVIDENCE", 1, 1, Desk.sealed("", 9, 4, Known.SOME));
        refused("before 4", 1, 0, Desk.sealed("", 9, 8, Known.ROOTS[8]) + Known.SOME);
        refused("before 5", 1, 0, Desk.sealed("", 0, 4, Known.ROOTS[4]));
        Desk desk = new Desk();
        String old = Desk.sealed("", 1, 4, Known.SOME);
        Due.is("by the KEY at first", follow(desk, 0, old), 0);
        desk.tape(KEY).x.key(0);
        Due.is("the same HEAD by another KEY", follow(desk, 0, old), 1);
        Due.is("sealed by the KEY just now", follow(desk, 0, head(1, 4, Known.SOME)), 0);
        Due.is("by the other LOG's KEY", desk.tape(old).x.follow(0, 1), 0);
    }

    private static void verdict1ByNumbers() {
        for (int witness : new int[] {0, 1, 3}) {
            refused("TIME -1", 1, witness, head(-1, 9, Known.SOME));
            refused("TIME lowest", 1, witness, head(-TOP - 1, 9, Known.SOME));
            refused("SIZE -1", 1, witness, head(9, -1, Known.SOME));
            refused("SIZE lowest", 1, witness, head(9, -TOP - 1, Known.SOME));
            refused("both", 1, witness, head(-1, -1, Known.SOME));
        }
        refused("TIME before 3", 1, 1, head(-1, 4, Known.SOME));
        refused("TIME before 4", 1, 3, head(-1, 4, Known.SOME) + Known.SOME);
        taken("TIME 0 and SIZE 0", 3, head(0, 0, Known.NO_LEAVES));
        taken("the greatest TIME and SIZE", 3, head(TOP, TOP, Known.SOME));
    }

    private static void verdict2() {
        // WITNESS 0 has SIZE 4 and TIME 5.
        refused("one below", 2, 0, head(9, 3, Known.ROOTS[3]));
        refused("SIZE 0", 2, 0, head(9, 0, Known.NO_LEAVES));
        refused("before 4", 2, 0, head(9, 3, Known.ROOTS[3]) + Known.SOME);
        refused("before 5", 2, 0, head(0, 3, Known.ROOTS[3]));
        refused("with the same ROOT", 2, 0, head(9, 3, Known.ROOTS[4]));
        taken("the same SIZE", 0, head(9, 4, Known.ROOTS[4]));
        Desk desk = keyed();
        follow(desk, 0, head(0, TOP, Known.SOME));
        Due.is("one below the greatest", follow(desk, 0, head(0, TOP - 1, Known.SOME)), 2);
        Due.is("the greatest", follow(desk, 0, head(0, TOP, Known.SOME)), 0);
        Due.is("SIZE 0 where it has no HEAD", follow(desk, 1, head(0, 0, Known.NO_LEAVES)), 0);
    }

    private static void verdict3() {
        // WITNESS 0 has EVIDENCE already, so nothing changes.
        refused("another ROOT", 3, 0, head(9, 4, Known.OTHER));
        refused("before 4", 3, 0, head(9, 4, Known.OTHER) + Known.SOME);
        refused("before 5", 3, 0, head(0, 4, Known.OTHER));
        for (int place : new int[] {16, 31, 32, 47}) {
            byte[] told = java.util.Arrays.copyOf(Desk.hex(House.HEAD_0), 48);
            told[place] ^= 1;
            refused("a ROOT unlike at " + place, 3, 0, Desk.text(Reference.sealed(Desk.hex(KEY), told)));
        }
        taken("the same ROOT", 0, head(6, 4, Known.ROOTS[4]));
        Desk desk = keyed();
        follow(desk, 0, head(0, 0, Known.NO_LEAVES));
        Due.is("SIZE 0", follow(desk, 0, head(0, 0, Known.SOME)), 3);
        follow(desk, 1, head(0, TOP, Known.SOME));
        Due.is("the greatest SIZE", follow(desk, 1, head(0, TOP, Known.NEARLY)), 3);
        Due.is("where it has no HEAD", follow(desk, 2, head(0, TOP, Known.NEARLY)), 0);
    }

    private static void evidenceOnce() {
        Desk desk = keyed();
        String held = head(5, 4, Known.ROOTS[4]);
        String first = head(0, 4, Known.SOME);
        follow(desk, 0, held);
        Due.raises("before", Due.NO_ELEMENT, () -> desk.x.has(0, 0, 1));
        // Digests and TIME are wrong too, but 3 is the first that holds.
        Due.is("the first", follow(desk, 0, first + Known.SOME), 3);
        shows("its HEAD", desk, 0, 0, 1, held);
        shows("this one", desk, 0, 0, 2, first);
        shows("its HEAD stays", desk, 0, 0, 0, held);
        Due.is("another", follow(desk, 0, head(9, 4, Known.OTHER)), 3);
        desk.x.has(0, 0, 2);
        Due.is("the first one's ROOT stays", desk.x.out(16), 0x11);
        Due.raises("of the other LOG", Due.NO_ELEMENT, () -> desk.x.has(0, 1, 1));
        Due.raises("of another WITNESS", Due.NO_ELEMENT, () -> desk.x.has(1, 0, 1));
        Desk later = keyed();
        follow(later, 0, held);
        follow(later, 0, first);
        follow(later, 0, head(9, 8, Known.ROOTS[8]) + Known.ROOT_4_8);
        Due.is("a split of a later HEAD", follow(later, 0, head(9, 8, Known.OTHER)), 3);
        shows("the EVIDENCE of the earlier one", later, 0, 0, 1, held);
        shows("the EVIDENCE of the earlier one", later, 0, 0, 2, first);
    }

    private static void verdict4WithoutHead() {
        refused("a digest", 4, 3, head(9, 4, Known.ROOTS[4]) + Known.SOME);
        refused("a digest with SIZE 0", 4, 3, head(9, 0, Known.NO_LEAVES) + Known.SOME);
        refused("the right PROOF from no one's HEAD", 4, 3, head(9, 8, Known.ROOTS[8]) + Known.ROOT_4_8);
        refused("as many as the TAPE has room for", 4, 3, head(9, 4, Known.ROOTS[4]) + Known.SOME.repeat(66));
        taken("none", 3, head(9, 4, Known.ROOTS[4]));
    }

    private static void verdict4WhereNoneIsDue() {
        refused("this SIZE, a digest", 4, 0, head(9, 4, Known.ROOTS[4]) + Known.SOME);
        refused("this SIZE, before 5", 4, 0, head(0, 4, Known.ROOTS[4]) + Known.SOME);
        taken("this SIZE, none", 0, head(9, 4, Known.ROOTS[4]));
        String eight = Desk.sealed("", 9, 8, Known.ROOTS[8]);
        // WITNESS 0 has a HEAD of SIZE 0 and TIME 2 of LOG 1.
        Aftermath.allButTape("SIZE 0, a digest", "4", House.withTape(eight + Known.SOME), x -> x.follow(0, 1));
        Aftermath.allButTape("SIZE 0 twice, a digest", "4", House.withTape(House.EMPTY_HEAD + Known.SOME),
                x -> x.follow(0, 1));
        Aftermath.allButTape("SIZE 0, before 5", "4",
                House.withTape(Desk.sealed("", 1, 8, Known.ROOTS[8]) + Known.SOME), x -> x.follow(0, 1));
        Desk desk = new Desk();
        House.furnish(desk);
        Due.is("SIZE 0 again, none", desk.tape(House.EMPTY_HEAD).x.follow(0, 1), 0);
        Due.is("SIZE 0, none", desk.tape(eight).x.follow(0, 1), 0);
        shows("it has that", desk, 0, 1, 0, eight);
    }

    private static void verdict4ByProof() {
        String eight = head(9, 8, Known.ROOTS[8]);
        refused("none", 4, 0, eight);
        refused("one too many", 4, 0, eight + Known.ROOT_4_8 + Known.SOME);
        refused("another", 4, 0, eight + Known.SOME);
        refused("to another ROOT", 4, 0, head(9, 8, Known.OTHER) + Known.ROOT_4_8);
        refused("to another SIZE", 4, 0, head(9, 9, Known.ROOTS[8]) + Known.ROOT_4_8);
        refused("from another ROOT", 4, 1, eight + Known.ROOT_4_8);
        refused("before 5", 4, 0, head(0, 8, Known.ROOTS[8]) + Known.SOME);
        refused("the TAPE as full as it may be", 4, 0, eight + Known.SOME.repeat(66));
        taken("right", 0, eight + Known.ROOT_4_8);
        taken("right to one more", 0, head(9, 5, Known.ROOTS[5]) + Known.LEAF_4);
        longestProof();
    }

    /** To the greatest SIZE from one that makes the PROOF as long as there is. */
    private static void longestProof() {
        long m = (1L << 61) + 1;
        byte[] digests = new byte[32 * 64];
        byte[][] roots = Reference.rootsBySteps(Desk.hex(Known.SOME), m, TOP, true,
                Reference.digestsFrom(digests, 0).iterator());
        String next = head(9, TOP, Desk.text(roots[1]));
        Desk desk = keyed();
        follow(desk, 0, head(9, m, Desk.text(roots[0])));
        Due.is("63 of 64 digests", follow(desk, 0, next + "00".repeat(32 * 63)), 4);
        Due.is("65 of 64 digests", follow(desk, 0, next + "00".repeat(32 * 65)), 4);
        Due.is("64 digests", follow(desk, 0, next + "00".repeat(32 * 64)), 0);
        shows("it has the greatest", desk, 0, 0, 0, next);
    }

    private static void verdict5() {
        // WITNESS 0 has SIZE 4 and TIME 5.
        refused("one below, this SIZE", 5, 0, head(4, 4, Known.ROOTS[4]));
        refused("TIME 0, this SIZE", 5, 0, head(0, 4, Known.ROOTS[4]));
        refused("one below, a greater SIZE", 5, 0, head(4, 8, Known.ROOTS[8]) + Known.ROOT_4_8);
        Aftermath.allButTape("one below, behind SIZE 0", "5", House.withTape(Desk.sealed("", 1, 8, Known.ROOTS[8])),
                x -> x.follow(0, 1));
        taken("the same TIME", 0, head(5, 8, Known.ROOTS[8]) + Known.ROOT_4_8);
        Desk desk = keyed();
        Due.is("any TIME where it has no HEAD", follow(desk, 0, head(TOP, 4, Known.ROOTS[4])), 0);
        Due.is("one below the greatest", follow(desk, 0, head(TOP - 1, 4, Known.ROOTS[4])), 5);
        Due.is("the greatest again", follow(desk, 0, head(TOP, 4, Known.ROOTS[4])), 0);
        Due.is("a TIME that no int has", follow(desk, 1, head(1L << 32, 4, Known.ROOTS[4])), 0);
        Due.is("one below it", follow(desk, 1, head((1L << 32) - 1, 4, Known.ROOTS[4])), 5);
    }

    private static void verdict0() {
        taken("the first", 3, head(0, 0, Known.NO_LEAVES));
        taken("the very same again", 0, House.HEAD_0);
        taken("the same TIME", 0, head(5, 4, Known.ROOTS[4]));
        taken("a later TIME", 0, head(6, 4, Known.ROOTS[4]));
        taken("a greater SIZE", 0, head(5, 8, Known.ROOTS[8]) + Known.ROOT_4_8);
        // Nothing else comes with it: to take the very same one changes nothing.
        refused("the very same", 0, 1, House.HEAD_1);
        Desk desk = keyed();
        follow(desk, 1, House.HEAD_0);
        Due.raises("no EVIDENCE came", Due.NO_ELEMENT, () -> desk.x.has(1, 0, 1));
        Due.raises("no EVIDENCE came", Due.NO_ELEMENT, () -> desk.x.has(1, 0, 2));
    }

    private static void followUsesUp() {
        String eight = head(9, 8, Known.ROOTS[8]);
        String[] told = {
            eight + Known.ROOT_4_8, Desk.sealed("", 9, 8, Known.ROOTS[8]), head(9, 3, Known.ROOTS[3]),
            head(9, 4, Known.SOME), eight, head(4, 4, Known.ROOTS[4])
        };
        for (int verdict = 0; verdict <= 5; verdict++) {
            Desk desk = new Desk();
            House.furnish(desk);
            Due.is("the verdict", follow(desk, 0, told[verdict]), verdict);
            Due.is("the TAPE's length behind " + verdict, Aftermath.tapeLength(desk.x), 0);
            Due.is("OUT behind " + verdict, desk.out(), Known.ENTRIES[3]);
        }
    }

    private static void followNoSuch() {
        for (int n : new int[] {79, 80, 81}) {
            for (int witness : Known.NO_WITNESSES) {
                Aftermath.allButTape("WITNESS " + witness + ", " + n + " bytes", Due.NO_INDEX, House.withSevens(n),
                        x -> x.follow(witness, 0));
            }
            for (int log : Known.NO_LOGS) {
                Aftermath.allButTape("LOG " + log + ", " + n + " bytes", Due.NO_INDEX, House.withSevens(n),
                        x -> x.follow(0, log));
            }
        }
        // No WITNESS and LOG make up for each other.
        Due.raises("WITNESS 4 of LOG -1", Due.NO_INDEX, () -> new Desk().sevens(80).x.follow(4, -1));
        Due.raises("WITNESS 0 of LOG 2", Due.NO_INDEX, () -> new Desk().sevens(80).x.follow(0, 2));
        Due.raises("WITNESS 1 of LOG -1", Due.NO_INDEX, () -> new Desk().sevens(80).x.follow(1, -1));
        Due.raises("WITNESS -1 of LOG 3", Due.NO_INDEX, () -> new Desk().sevens(80).x.follow(-1, 3));
        Due.is("WITNESS 3 of LOG 1", new Desk().sevens(80).x.follow(3, 1), 1);
        Due.is("WITNESS 0 of LOG 0", new Desk().sevens(80).x.follow(0, 0), 1);
    }

    private static void followTooShort() {
        for (int n : new int[] {0, 1, 16, 48, 79}) {
            Aftermath.allButTape(n + " bytes", Due.NO_ARGUMENT, House.withSevens(n), x -> x.follow(0, 0));
        }
        String good = head(9, 4, Known.ROOTS[4]);
        Aftermath.allButTape("a HEAD but its last byte", Due.NO_ARGUMENT, House.withTape(good.substring(0, 158)),
                x -> x.follow(0, 0));
        taken("80 bytes", 0, good);
    }

    private static void followNotWhole() {
        String good = head(9, 8, Known.ROOTS[8]) + Known.ROOT_4_8;
        for (int n : new int[] {81, 82, 96, 111}) {
            Aftermath.allButTape(n + " bytes", Due.NO_ARGUMENT, House.withTape(good.substring(0, 2 * n)),
                    x -> x.follow(0, 0));
        }
        for (int n : new int[] {113, 143, 145, 2191, 2193, 2200}) {
            Aftermath.allButTape(n + " bytes", Due.NO_ARGUMENT, House.withSevens(n), x -> x.follow(0, 0));
        }
        refused("144 bytes", 1, 0, "07".repeat(144));
        refused("2192 bytes", 1, 0, "07".repeat(2192));
        taken("112 bytes", 0, good);
    }

    private static void gossips(String what, int due, int witness, int other, int log) {
        Aftermath.all(what, String.valueOf(due), House.withSevens(3), x -> x.gossip(witness, other, log));
    }

    private static void gossipOfNone() {
        gossips("the second", 0, 0, 3, 0);
        gossips("the first", 0, 3, 0, 0);
        gossips("the same", 0, 3, 3, 0);
        gossips("both", 0, 2, 3, 1);
        gossips("the second, of SIZE 0", 0, 0, 1, 1);
        gossips("the first, of SIZE 0", 0, 1, 0, 1);
    }

    private static void gossipOfOne() {
        gossips("the same WITNESS", 0, 0, 0, 0);
        gossips("the same WITNESS without EVIDENCE", 0, 1, 1, 0);
        gossips("of SIZE 0", 0, 0, 0, 1);
        Aftermath.Scene scene = desk -> {
            House.furnish(desk);
            // TIME and SEAL are unlike.
            desk.tape(head(99, 4, Known.OTHER)).x.follow(3, 0);
        };
        Aftermath.all("unlike TIMES", "0", scene, x -> x.gossip(1, 3, 0));
        Aftermath.all("unlike TIMES", "0", scene, x -> x.gossip(3, 1, 0));
    }

    /** The one WITNESS has a HEAD of SIZE 4, the other of SIZE 8. */
    private static void gossipOfSizes(boolean firstGreater) {
        int due = firstGreater ? 1 : 2;
        for (int small = 0; small < 2; small++) {
            gossips("of 4 and 8", due, firstGreater ? 2 : small, firstGreater ? small : 2, 0);
        }
        long[][] sizes = {{0, 1}, {0, TOP}, {TOP - 1, TOP}, {4, 5}, {Integer.MAX_VALUE, 1L << 31}};
        for (long[] pair : sizes) {
            Desk desk = keyed();
            follow(desk, 0, head(9, pair[0], Known.SOME));
            follow(desk, 1, head(1, pair[1], Known.SOME));
            Due.is("SIZES " + pair[0] + " and " + pair[1], desk.x.gossip(firstGreater ? 1 : 0, firstGreater ? 0 : 1, 0),
                    due);
        }
    }

    private static void gossipOfSplit() {
        long[] sizes = {0, 1, TOP};
        for (long size : sizes) {
            Desk desk = keyed();
            follow(desk, 2, head(1, size, Known.SOME));
            follow(desk, 3, head(1, size, Known.NEARLY));
            Due.is("SIZE " + size, desk.x.gossip(2, 3, 0), 3);
            Due.is("SIZE " + size, desk.x.gossip(3, 2, 0), 3);
            shows("the HEAD stays", desk, 2, 0, 0, head(1, size, Known.SOME));
            shows("the HEAD stays", desk, 3, 0, 0, head(1, size, Known.NEARLY));
        }
        Desk desk = keyed();
        follow(desk, 0, head(1, 4, Known.SOME));
        follow(desk, 1, head(1, 4, "91" + Known.SOME.substring(2)));
        Due.is("unlike in the first bit", desk.x.gossip(0, 1, 0), 3);
    }

    private static void gossipEvidence() {
        // WITNESS 0 has EVIDENCE already, 1 has none.
        for (int first = 0; first < 2; first++) {
            Desk desk = new Desk();
            House.furnish(desk);
            desk.tape("010203");
            Due.is("gossip", desk.x.gossip(first, 1 - first, 0), 3);
            Due.is("the TAPE's length", Aftermath.tapeLength(desk.x), 3);
            Due.is("OUT", desk.out(), Known.ENTRIES[3]);
            shows("who had some keeps it", desk, 0, 0, 2, House.SPLIT_0);
            shows("who had none has both", desk, 1, 0, 1, first == 0 ? House.HEAD_0 : House.HEAD_1);
            shows("who had none has both", desk, 1, 0, 2, first == 0 ? House.HEAD_1 : House.HEAD_0);
        }
        Desk desk = new Desk();
        House.furnish(desk);
        desk.x.gossip(1, 0, 0);
        desk.x.gossip(0, 1, 0);
        shows("the first one stays", desk, 1, 0, 1, House.HEAD_1);
        Due.raises("of the other LOG", Due.NO_ELEMENT, () -> desk.x.has(1, 1, 1));
        Due.raises("of another WITNESS", Due.NO_ELEMENT, () -> desk.x.has(2, 0, 1));
        Due.is("a split behind it", follow(desk, 1, head(9, 4, Known.SOME)), 3);
        shows("that stays too", desk, 1, 0, 2, House.HEAD_0);
    }

    private static void gossipOrder() {
        for (int first = 0; first < 4; first += 3) {
            Desk desk = keyed();
            String[] heads = {head(1, 4, Known.SOME), "", "", head(2, 4, Known.OTHER)};
            follow(desk, 0, heads[0]);
            follow(desk, 3, heads[3]);
            desk.x.gossip(first, 3 - first, 0);
            for (int witness = 0; witness < 4; witness += 3) {
                shows("the first's", desk, witness, 0, 1, heads[first]);
                shows("the second's", desk, witness, 0, 2, heads[3 - first]);
            }
        }
    }

    private static void gossipNoSuch() {
        for (int witness : Known.NO_WITNESSES) {
            Aftermath.all("the first " + witness, Due.NO_INDEX, House.withSevens(3), x -> x.gossip(witness, 1, 0));
            Aftermath.all("the second " + witness, Due.NO_INDEX, House.withSevens(3), x -> x.gossip(1, witness, 0));
            // Where the first has no HEAD too: the answer is not 0.
            Aftermath.all("the second " + witness, Due.NO_INDEX, House.withSevens(3), x -> x.gossip(3, witness, 0));
            Aftermath.all("both " + witness, Due.NO_INDEX, House.withSevens(3), x -> x.gossip(witness, witness, 0));
        }
        for (int log : Known.NO_LOGS) {
            Aftermath.all("LOG " + log, Due.NO_INDEX, House.withSevens(3), x -> x.gossip(0, 1, log));
            Aftermath.all("LOG " + log, Due.NO_INDEX, House.withSevens(3), x -> x.gossip(3, 3, log));
        }
        gossips("the last WITNESS and the first", 0, 3, 0, 1);
    }

    private static void hasHead() {
        Desk desk = new Desk();
        House.furnish(desk);
        desk.tape("010203");
        shows("WITNESS 0", desk, 0, 0, 0, House.HEAD_0);
        Due.is("bytes", desk.x.outs(), 80);
        shows("WITNESS 0, LOG 1", desk, 0, 1, 0, House.EMPTY_HEAD);
        Due.is("the TAPE's length", Aftermath.tapeLength(desk.x), 3);
        Desk last = keyed();
        last.tape(Desk.sealed("", TOP, TOP, Known.SOME)).x.follow(3, 1);
        shows("WITNESS 3, LOG 1", last, 3, 1, 0, Desk.sealed("", TOP, TOP, Known.SOME));
    }

    private static void hasEvidence() {
        Desk desk = new Desk();
        House.furnish(desk);
        shows("the first", desk, 0, 0, 1, House.HEAD_0);
        shows("the second", desk, 0, 0, 2, House.SPLIT_0);
        // The HEAD goes on, the EVIDENCE stays.
        follow(desk, 0, head(9, 4, Known.ROOTS[4]));
        shows("the first behind another HEAD", desk, 0, 0, 1, House.HEAD_0);
    }

    private static void hasNoSuch() {
        for (int which : new int[] {0, 3}) {
            for (int witness : Known.NO_WITNESSES) {
                Aftermath.all("WITNESS " + witness, Due.NO_INDEX, House.withSevens(3), x -> x.has(witness, 0, which));
            }
            for (int log : Known.NO_LOGS) {
                Aftermath.all("LOG " + log, Due.NO_INDEX, House.withSevens(3), x -> x.has(0, log, which));
            }
        }
    }

    private static void hasNone() {
        for (int which = 0; which < 3; which++) {
            int its = which;
            Aftermath.all("WITNESS 3, which " + which, Due.NO_ELEMENT, House.withSevens(3), x -> x.has(3, 0, its));
            Aftermath.all("LOG 1, which " + which, Due.NO_ELEMENT, House.withSevens(3), x -> x.has(1, 1, its));
        }
        for (int which = 1; which < 3; which++) {
            int its = which;
            Aftermath.all("EVIDENCE of one that has a HEAD, which " + which, Due.NO_ELEMENT, House.withSevens(3),
                    x -> x.has(1, 0, its));
            Aftermath.all("EVIDENCE of LOG 1, which " + which, Due.NO_ELEMENT, House.withSevens(3),
                    x -> x.has(0, 1, its));
        }
    }

    private static void hasAnother() {
        for (int which : new int[] {-1, 3, 4, Integer.MIN_VALUE, Integer.MAX_VALUE}) {
            Aftermath.all("which " + which, Due.NO_ELEMENT, House.withSevens(3), x -> x.has(0, 0, which));
            Aftermath.all("which " + which + " of nothing", Due.NO_ELEMENT, House.withSevens(3),
                    x -> x.has(3, 1, which));
        }
    }
}
