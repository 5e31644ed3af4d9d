/** Each promise of the document by its number: ordinary inputs, the edges that it names, and wrong inputs. */
public final class PromisesTest {
    private PromisesTest() {
    }

    public static void main(String[] args) {
        newObject();
        feed();
        end();
        again();
        out();
        outs();
        key();
        submit();
        submitFull();
        cut();
        cutFull();
        size();
        head();
        entry();
        leaf();
        find();
        root();
        way();
        proof();
        isIn();
        isInOfGreatNumbers();
        isOn();
        isOnOfGreatNumbers();
        isSealed();
        seal();
        sealWithLongKeys();
        followVerdicts();
        followDigests();
        followEvidence();
        followWrong();
        gossip();
        gossipEvidence();
        has();
        usedUpWhateverComes();
        outStaysWhereACallThrows();
        Due.done("PromisesTest");
    }

    /** LOG 0 with the known ENTRIES, all in its TREE. */
    private static Desk known() {
        Desk desk = new Desk();
        for (String entry : Known.ENTRIES) {
            desk.submit(0, entry);
        }
        desk.x.cut(0, 5);
        return desk;
    }

    private static void newObject() {
        LeafWitness x = new LeafWitness();
        for (int log = 0; log < 2; log++) {
            int its = log;
            for (int what = 0; what < 4; what++) {
                Due.is("1: size", x.size(log, what), 0);
            }
            Due.raises("1: head", Due.NO_ELEMENT, () -> x.head(its, 0));
            Due.raises("1: entry", Due.NO_ELEMENT, () -> x.entry(its, 0));
            for (int witness = 0; witness < 4; witness++) {
                int one = witness;
                for (int which = 0; which < 3; which++) {
                    int w = which;
                    Due.raises("1: has", Due.NO_ELEMENT, () -> x.has(one, its, w));
                }
            }
        }
        Due.is("1: outs", x.outs(), 0);
        Due.is("1: out", x.out(0), -1);
        Due.is("1: end(0)", x.end(0), true);
        Due.is("1: end(1)", x.end(1), false);
        Due.is("1: NONE", LeafWitness.NONE, -1);
    }

    private static void feed() {
        Desk desk = new Desk();
        Due.is("2: feed", desk.x.feed(0x01020304, -1, 0x80000000, 0x7f, 0xfedcba98), 20);
        desk.x.submit(0);
        desk.x.entry(0, 0);
        Due.is("2: bytes", desk.out(), "01020304ffffffff800000000000007ffedcba98");
        LeafWitness x = new LeafWitness();
        for (int i = 1; i <= 110; i++) {
            Due.is("2: feed", x.feed(i, i, i, i, i), 20 * i);
        }
        Due.is("2: feed beyond 2200", x.feed(1, 1, 1, 1, 1), -1);
        Due.is("2: none came", x.end(2200), true);
        x.end(2181);
        Due.is("2: feed beyond 2200 by one", x.feed(1, 1, 1, 1, 1), -1);
        Due.is("2: none came", x.end(2182), false);
        x.end(2180);
        Due.is("2: feed up to 2200", x.feed(1, 1, 1, 1, 1), 2200);
    }

    private static void end() {
        Desk desk = new Desk();
        desk.x.feed(0x01020304, 0x05060708, 0, 0, 0);
        Due.is("3: end beyond", desk.x.end(21), false);
        Due.is("3: end below 0", desk.x.end(-1), false);
        Due.is("3: end lowest", desk.x.end(Integer.MIN_VALUE), false);
        Due.is("3: end highest", desk.x.end(Integer.MAX_VALUE), false);
        Due.is("3: end all", desk.x.end(20), true);
        Due.is("3: end 5", desk.x.end(5), true);
        Due.is("3: end 6 of 5", desk.x.end(6), false);
        Due.is("3: end 5 of 5", desk.x.end(5), true);
        desk.x.submit(0);
        desk.x.entry(0, 0);
        Due.is("3: the first bytes", desk.out(), "0102030405");
        desk.x.feed(1, 1, 1, 1, 1);
        Due.is("3: end 0", desk.x.end(0), true);
        Due.is("3: empty", desk.x.end(1), false);
    }

    private static void again() {
        Desk desk = new Desk();
        Due.is("4: empty behind empty", desk.x.again(), 0);
        desk.submit(0, "a1b2c3");
        desk.x.entry(0, 0);
        Due.is("4: again", desk.x.again(), 3);
        Due.is("4: again behind", desk.x.again(), 6);
        Due.is("4: it stays OUT", desk.x.outs(), 3);
        desk.x.submit(0);
        desk.x.entry(0, 1);
        Due.is("4: the bytes", desk.out(), "a1b2c3a1b2c3");
        for (int i = 0; i < 109; i++) {
            desk.x.feed(0, 0, 0, 0, 0);
        }
        Due.is("4: 2186", desk.x.again(), 2186);
        Due.is("4: 2192", desk.x.again(), 2192);
        Due.is("4: 2198", desk.x.again(), 2198);
        Due.is("4: beyond 2200", desk.x.again(), -1);
        Due.is("4: nothing came", desk.x.end(2199), false);
        desk.x.end(2194);
        Due.is("4: up to 2200", desk.x.again(), 2200);
    }

    private static void out() {
        Desk desk = new Desk();
        desk.submit(0, "00807fff");
        desk.x.entry(0, 0);
        int[] bytes = {0, 128, 127, 255};
        for (int i = 0; i < 4; i++) {
            Due.is("5: out(" + i + ")", desk.x.out(i), bytes[i]);
        }
        for (int i : new int[] {-1, 4, 5, 288, 2200, Integer.MIN_VALUE, Integer.MAX_VALUE}) {
            Due.is("5: out(" + i + ")", desk.x.out(i), -1);
        }
        desk.x.root(0, 0);
        desk.x.entry(0, 0);
        Due.is("5: behind a shorter OUT", desk.x.out(4), -1);
    }

    private static void outs() {
        Desk desk = known();
        Due.is("6: at first", desk.x.outs(), 0);
        desk.x.head(0, 0);
        Due.is("6: a HEAD", desk.x.outs(), 80);
        desk.x.entry(0, 3);
        Due.is("6: an ENTRY", desk.x.outs(), 2);
        desk.x.entry(0, 0);
        Due.is("6: an ENTRY of no bytes", desk.x.outs(), 0);
        desk.x.leaf(0, 3);
        Due.is("6: a LEAF", desk.x.outs(), 32);
        desk.x.way(0, 0, 8);
        Due.is("6: a WAY", desk.x.outs(), 96);
        desk.x.feed(1, 2, 3, 4, 5);
        Due.is("6: feed leaves it", desk.x.outs(), 96);
        desk.x.proof(0, 8, 8);
        Due.is("6: an empty PROOF", desk.x.outs(), 0);
    }

    private static void key() {
        Desk desk = new Desk();
        Due.is("7: no bytes", desk.x.key(0), 0);
        Due.is("7: 100 bytes", desk.sevens(100).x.key(0), 100);
        Due.is("7: used up", desk.tapeIsEmpty(), true);
        Due.is("7: its size", desk.x.size(0, 3), 100);
        Due.is("7: the other LOG's", desk.x.size(1, 3), 0);
        Due.raises("7: 101 bytes", Due.NO_ARGUMENT, () -> desk.sevens(101).x.key(0));
        Due.is("7: it stays", desk.x.size(0, 3), 100);
        Due.is("7: another one", desk.tape("0102").x.key(0), 2);
        desk.tape(Desk.sealed("0102", 1, 2, Known.SOME));
        Due.is("7: it seals", desk.x.isSealed(0), true);
        desk.x.cut(0, 1);
        Due.raises("7: it has a HEAD", Due.NO_STATE, () -> desk.tape("01").x.key(0));
        Due.raises("7: too long comes first", Due.NO_ARGUMENT, () -> desk.sevens(101).x.key(0));
        Due.is("7: it stays", desk.x.size(0, 3), 2);
        Due.is("7: the other LOG has none", desk.tape("010203").x.key(1), 3);
        for (int log : Known.NO_LOGS) {
            Due.raises("7: no such LOG", Due.NO_INDEX, () -> desk.sevens(101).x.key(log));
        }
    }

    private static void submit() {
        Desk desk = new Desk();
        Due.is("8: no bytes", desk.submit(0, ""), 0);
        Due.is("8: one", desk.submit(0, "00"), 1);
        Due.is("8: used up", desk.tapeIsEmpty(), true);
        Due.is("8: longer", desk.submit(0, "0000"), 2);
        Due.is("8: 120 bytes", desk.sevens(120).x.submit(0), 3);
        Due.is("8: 119 bytes", desk.sevens(119).x.submit(0), 4);
        Due.is("8: the same", desk.submit(0, "00"), 1);
        Due.is("8: the same of no bytes", desk.submit(0, ""), 0);
        Due.is("8: the same of 120", desk.sevens(120).x.submit(0), 3);
        Due.is("8: nothing came", desk.x.size(0, 0), 5);
        Due.is("8: it waits", desk.x.size(0, 1), 0);
        desk.x.cut(0, 1);
        Due.is("8: the same in the TREE", desk.submit(0, "0000"), 2);
        Due.is("8: the other LOG", desk.submit(1, "00"), 0);
        Due.raises("8: 121 bytes", Due.NO_ARGUMENT, () -> desk.sevens(121).x.submit(0));
        Due.is("8: nothing came", desk.x.size(0, 0), 5);
        for (int log : Known.NO_LOGS) {
            Due.raises("8: no such LOG", Due.NO_INDEX, () -> desk.sevens(121).x.submit(log));
        }
    }

    private static void submitFull() {
        LeafWitness x = new LeafWitness();
        for (int i = 0; i < 200; i++) {
            x.feed(i, 0, 0, 0, 0);
            Due.is("8: number", x.submit(1), i);
        }
        x.feed(200, 0, 0, 0, 0);
        Due.raises("8: there are 200", Due.NO_STATE, () -> x.submit(1));
        x.feed(199, 0, 0, 0, 0);
        Due.is("8: the same of 200", x.submit(1), 199);
        for (int i = 0; i < 7; i++) {
            x.feed(0, 0, 0, 0, 0);
        }
        Due.raises("8: too long comes first", Due.NO_ARGUMENT, () -> x.submit(1));
        Due.is("8: 200", x.size(1, 0), 200);
        Due.is("8: none is in the TREE", x.size(1, 1), 0);
        x.cut(1, 0);
        Due.is("8: all are in the TREE", x.size(1, 1), 200);
        Due.is("12: the last", x.entry(1, 199), 20);
        Due.is("13: the last", x.leaf(1, 199), true);
        Due.is("17: the longest PROOF", x.proof(1, 127, 200), 9);
        Due.is("17: its bytes", x.outs(), 288);
        Due.is("16: the longest WAY", x.way(1, 0, 200), 8);
        Due.is("16: a short WAY", x.way(1, 199, 200), 5);
    }

    private static void cut() {
        Desk desk = new Desk();
        Due.is("9: of nothing", desk.x.cut(0, 0), 0);
        desk.submit(0, "00");
        desk.submit(0, "01");
        Due.is("9: TREE before", desk.x.size(0, 1), 0);
        Due.is("9: the next", desk.x.cut(0, 7), 1);
        Due.is("9: TREE behind", desk.x.size(0, 1), 2);
        Due.is("9: the same TIME", desk.x.cut(0, 7), 2);
        desk.submit(0, "02");
        Due.raises("9: below the latest", Due.NO_ARGUMENT, () -> desk.x.cut(0, 6));
        Due.raises("9: below 0", Due.NO_ARGUMENT, () -> desk.x.cut(0, -1));
        Due.raises("9: lowest", Due.NO_ARGUMENT, () -> desk.x.cut(0, Long.MIN_VALUE));
        Due.is("9: it waits still", desk.x.size(0, 1), 2);
        Due.is("9: no HEAD came", desk.x.size(0, 2), 3);
        Due.is("9: later", desk.x.cut(0, 9), 3);
        Due.raises("9: below the latest alone", Due.NO_ARGUMENT, () -> desk.x.cut(0, 8));
        Due.is("9: greatest TIME", desk.x.cut(0, Long.MAX_VALUE), 4);
        Due.is("9: again", desk.x.cut(0, Long.MAX_VALUE), 5);
        Due.raises("9: below the greatest", Due.NO_ARGUMENT, () -> desk.x.cut(0, Long.MAX_VALUE - 1));
        Due.raises("9: below 0 in the other LOG", Due.NO_ARGUMENT, () -> desk.x.cut(1, -1));
        Due.is("9: the other LOG", desk.x.cut(1, 0), 0);
        for (int log : Known.NO_LOGS) {
            Due.raises("9: no such LOG", Due.NO_INDEX, () -> desk.x.cut(log, -1));
        }
        desk.tape("0102");
        desk.x.cut(0, Long.MAX_VALUE);
        Due.is("9: the TAPE stays", desk.x.end(2), true);
    }

    private static void cutFull() {
        LeafWitness x = new LeafWitness();
        for (int i = 0; i < 40; i++) {
            Due.is("9: number", x.cut(0, 3), i);
        }
        x.submit(0);
        Due.raises("9: there are 40", Due.NO_STATE, () -> x.cut(0, 3));
        Due.raises("9: TIME comes first", Due.NO_ARGUMENT, () -> x.cut(0, 2));
        Due.is("9: 40", x.size(0, 2), 40);
        Due.is("9: it waits", x.size(0, 1), 0);
        Due.is("9: the last", x.head(0, 39), 0);
    }

    private static void size() {
        Desk desk = known();
        desk.submit(0, "aabb");
        desk.x.cut(1, 0);
        desk.x.cut(1, 0);
        Due.is("10: ENTRIES", desk.x.size(0, 0), 9);
        Due.is("10: SIZE", desk.x.size(0, 1), 8);
        Due.is("10: HEADS", desk.x.size(0, 2), 1);
        Due.is("10: KEY", desk.x.size(0, 3), 0);
        Due.is("10: the other's HEADS", desk.x.size(1, 2), 2);
        Due.is("10: the other's ENTRIES", desk.x.size(1, 0), 0);
        for (int what : new int[] {-1, 4, Integer.MIN_VALUE, Integer.MAX_VALUE}) {
            Due.raises("10: another what", Due.NO_ELEMENT, () -> desk.x.size(0, what));
        }
        for (int log : Known.NO_LOGS) {
            Due.raises("10: no such LOG", Due.NO_INDEX, () -> desk.x.size(log, 4));
        }
    }

    private static void head() {
        Desk desk = new Desk();
        desk.tape("6b6579").x.key(0);
        desk.x.cut(0, 0x0102030405060708L);
        for (String entry : Known.ENTRIES) {
            desk.submit(0, entry);
        }
        desk.x.cut(0, Long.MAX_VALUE);
        byte[] key = Desk.hex("6b6579");
        Due.is("11: SIZE", desk.x.head(0, 0), 0);
        String told = "0102030405060708" + "0000000000000000" + Known.NO_LEAVES;
        Due.is("11: HEAD 0", desk.out(), Desk.text(Reference.sealed(key, Desk.hex(told))));
        Due.is("11: SIZE", desk.x.head(0, 1), 8);
        told = "7fffffffffffffff" + "0000000000000008" + Known.ROOTS[8];
        Due.is("11: HEAD 1", desk.out(), Desk.text(Reference.sealed(key, Desk.hex(told))));
        for (int k : new int[] {-1, 2, 39, 40, Integer.MIN_VALUE, Integer.MAX_VALUE}) {
            Due.raises("11: none such", Due.NO_ELEMENT, () -> desk.x.head(0, k));
        }
        Due.raises("11: the other LOG", Due.NO_ELEMENT, () -> desk.x.head(1, 0));
        for (int log : Known.NO_LOGS) {
            Due.raises("11: no such LOG", Due.NO_INDEX, () -> desk.x.head(log, -1));
        }
    }

    private static void entry() {
        Desk desk = known();
        desk.submit(0, "aabb");
        for (int i = 0; i < 8; i++) {
            Due.is("12: bytes", desk.x.entry(0, i), Known.ENTRIES[i].length() / 2);
            Due.is("12: ENTRY", desk.out(), Known.ENTRIES[i]);
        }
        Due.is("12: that WAITS", desk.x.entry(0, 8), 2);
        for (int i : new int[] {-1, 9, 199, 200, Integer.MIN_VALUE, Integer.MAX_VALUE}) {
            Due.raises("12: none such", Due.NO_ELEMENT, () -> desk.x.entry(0, i));
        }
        for (int log : Known.NO_LOGS) {
            Due.raises("12: no such LOG", Due.NO_INDEX, () -> desk.x.entry(log, -1));
        }
    }

    private static void leaf() {
        Desk desk = known();
        desk.submit(0, "aabb");
        Due.is("13: in the TREE", desk.x.leaf(0, 0), true);
        Due.is("13: LEAF of no bytes", desk.out(), Known.ROOTS[1]);
        Due.is("13: in the TREE", desk.x.leaf(0, 7), true);
        Due.is("13: LEAF", desk.out(), Desk.text(Reference.leaf(Desk.hex(Known.ENTRIES[7]))));
        Due.is("13: it WAITS", desk.x.leaf(0, 8), false);
        Due.is("13: LEAF", desk.out(), Desk.text(Reference.leaf(Desk.hex("aabb"))));
        desk.x.cut(0, 9);
        Due.is("13: behind a cut", desk.x.leaf(0, 8), true);
        for (int i : new int[] {-1, 9, 199, 200, Integer.MIN_VALUE, Integer.MAX_VALUE}) {
            Due.raises("13: none such", Due.NO_ELEMENT, () -> desk.x.leaf(0, i));
        }
        for (int log : Known.NO_LOGS) {
            Due.raises("13: no such LOG", Due.NO_INDEX, () -> desk.x.leaf(log, -1));
        }
        for (int length : new int[] {54, 55, 56, 63, 64, 118, 119, 120}) {
            byte[] entry = new byte[length];
            desk.tape(entry).x.leaf(1, desk.x.submit(1));
            Due.is("13: LEAF of " + length + " bytes", desk.out(), Desk.text(Reference.leaf(entry)));
        }
    }

    private static void find() {
        Desk desk = known();
        desk.submit(0, "aabb");
        Due.is("14: the first", desk.tape(Known.ROOTS[1]).x.find(0), 0);
        Due.is("14: used up", desk.tapeIsEmpty(), true);
        Due.is("14: another", desk.tape(Known.LEAF_4).x.find(0), 4);
        desk.x.leaf(0, 8);
        desk.x.again();
        Due.is("14: it WAITS", desk.x.find(0), -1);
        desk.x.cut(0, 9);
        desk.x.again();
        Due.is("14: behind a cut", desk.x.find(0), 8);
        Due.is("14: nearly a LEAF", desk.tape(Known.LEAF_4.substring(0, 63) + "a").x.find(0), -1);
        Due.is("14: no LEAF", desk.tape(Known.SOME).x.find(0), -1);
        Due.is("14: a ROOT is no LEAF", desk.tape(Known.ROOTS[2]).x.find(0), -1);
        Due.is("14: the other LOG", desk.tape(Known.ROOTS[1]).x.find(1), -1);
        for (int n : new int[] {0, 31, 33, 64}) {
            Due.raises("14: not 32 bytes", Due.NO_ARGUMENT, () -> desk.sevens(n).x.find(0));
        }
        for (int log : Known.NO_LOGS) {
            Due.raises("14: no such LOG", Due.NO_INDEX, () -> desk.tape("00").x.find(log));
        }
    }

    private static void root() {
        Desk desk = known();
        desk.submit(0, "aabb");
        for (int n = 0; n <= 8; n++) {
            Due.is("15: root", desk.x.root(0, n), true);
            Due.is("15: ROOT of " + n, desk.out(), Known.ROOTS[n]);
        }
        Due.is("15: of the empty LOG", desk.x.root(1, 0), true);
        Due.is("15: its ROOT", desk.out(), Known.NO_LEAVES);
        for (int n : new int[] {-1, 9, 200, Integer.MIN_VALUE, Integer.MAX_VALUE}) {
            Due.raises("15: not 0 to SIZE", Due.NO_ELEMENT, () -> desk.x.root(0, n));
        }
        Due.raises("15: beyond the empty LOG", Due.NO_ELEMENT, () -> desk.x.root(1, 1));
        for (int log : Known.NO_LOGS) {
            Due.raises("15: no such LOG", Due.NO_INDEX, () -> desk.x.root(log, -1));
        }
    }

    private static void way() {
        Desk desk = known();
        desk.submit(0, "aabb");
        Due.is("16: of one", desk.x.way(0, 0, 1), 0);
        Due.is("16: no digests", desk.x.outs(), 0);
        Due.is("16: 0 of 8", desk.x.way(0, 0, 8), 3);
        Due.is("16: WAY", desk.out(), Known.LEAF_1 + Known.ROOT_2_4 + Known.ROOT_4_8);
        Due.is("16: 5 of 8", desk.x.way(0, 5, 8), 3);
        Due.is("16: WAY", desk.out(), Known.LEAF_4 + Known.ROOT_6_8 + Known.ROOTS[4]);
        Due.is("16: 2 of 3", desk.x.way(0, 2, 3), 1);
        Due.is("16: WAY", desk.out(), Known.ROOTS[2]);
        Due.is("16: 0 of 2", desk.x.way(0, 0, 2), 1);
        Due.is("16: WAY", desk.out(), Known.LEAF_1);
        int[][] none = {{-1, 8}, {8, 8}, {9, 8}, {0, 0}, {0, 9}, {8, 9}, {0, -1}, {-2, -1},
            {Integer.MIN_VALUE, 8}, {0, Integer.MAX_VALUE}, {Integer.MAX_VALUE, Integer.MIN_VALUE}};
        for (int[] pair : none) {
            Due.raises("16: no such WAY", Due.NO_ELEMENT, () -> desk.x.way(0, pair[0], pair[1]));
        }
        for (int log : Known.NO_LOGS) {
            Due.raises("16: no such LOG", Due.NO_INDEX, () -> desk.x.way(log, -1, 0));
        }
    }

    private static void proof() {
        Desk desk = known();
        desk.submit(0, "aabb");
        Due.is("17: 1 and 1", desk.x.proof(0, 1, 1), 0);
        Due.is("17: 8 and 8", desk.x.proof(0, 8, 8), 0);
        Due.is("17: no digests", desk.x.outs(), 0);
        Due.is("17: 1 and 8", desk.x.proof(0, 1, 8), 3);
        Due.is("17: PROOF", desk.out(), Known.LEAF_1 + Known.ROOT_2_4 + Known.ROOT_4_8);
        Due.is("17: 6 and 8", desk.x.proof(0, 6, 8), 3);
        Due.is("17: PROOF", desk.out(), Known.ROOT_4_6 + Known.ROOT_6_8 + Known.ROOTS[4]);
        Due.is("17: 2 and 5", desk.x.proof(0, 2, 5), 2);
        Due.is("17: PROOF", desk.out(), Known.ROOT_2_4 + Known.LEAF_4);
        Due.is("17: 4 and 8", desk.x.proof(0, 4, 8), 1);
        Due.is("17: PROOF", desk.out(), Known.ROOT_4_8);
        int[][] none = {{0, 8}, {-1, 8}, {9, 8}, {1, 9}, {9, 9}, {0, 0}, {1, 0}, {-2, -1},
            {Integer.MIN_VALUE, 8}, {1, Integer.MAX_VALUE}, {1, Integer.MIN_VALUE}};
        for (int[] pair : none) {
            Due.raises("17: no such PROOF", Due.NO_ELEMENT, () -> desk.x.proof(0, pair[0], pair[1]));
        }
        for (int log : Known.NO_LOGS) {
            Due.raises("17: no such LOG", Due.NO_INDEX, () -> desk.x.proof(log, 0, 0));
        }
    }

    private static void isIn() {
        Desk desk = new Desk();
        String told = Known.ROOTS[8] + Known.ROOTS[1] + Known.LEAF_1 + Known.ROOT_2_4 + Known.ROOT_4_8;
        Due.is("18: 0 of 8", desk.tape(told).x.isIn(0, 8), true);
        Due.is("18: used up", desk.tapeIsEmpty(), true);
        Due.is("18: another LEAF's number", desk.tape(told).x.isIn(1, 8), false);
        Due.is("18: another n of as many digests", desk.tape(told).x.isIn(0, 7), true);
        Due.is("18: an n of fewer digests", desk.tape(told).x.isIn(0, 4), false);
        Due.is("18: an n of more digests", desk.tape(told).x.isIn(0, 9), false);
        Due.is("18: another ROOT", desk.tape(Known.SOME + told.substring(64)).x.isIn(0, 8), false);
        Due.is("18: a byte behind", desk.tape(told + "00").x.isIn(0, 8), false);
        Due.is("18: a digest behind", desk.tape(told + Known.SOME).x.isIn(0, 8), false);
        Due.is("18: a byte too few", desk.tape(told.substring(0, 318)).x.isIn(0, 8), false);
        Due.is("18: a digest too few", desk.tape(told.substring(0, 256)).x.isIn(0, 8), false);
        Due.is("18: a last bit changed", desk.tape(told.substring(0, 319) + "5").x.isIn(0, 8), false);
        Due.is("18: of one", desk.tape(Known.SOME + Known.SOME).x.isIn(0, 1), true);
        Due.is("18: of one, nearly", desk.tape(Known.NEARLY + Known.SOME).x.isIn(0, 1), false);
        Due.is("18: of one, unlike", desk.tape(Known.SOME + Known.OTHER).x.isIn(0, 1), false);
        Due.is("18: no LEAF", desk.tape(Known.SOME).x.isIn(0, 1), false);
        Due.is("18: nothing", desk.x.isIn(0, 1), false);
        long[][] wrong = {{-1, 1}, {1, 1}, {0, 0}, {0, -1}, {-2, -1}, {Long.MIN_VALUE, Long.MAX_VALUE},
            {Long.MAX_VALUE, Long.MIN_VALUE}, {Long.MAX_VALUE, Long.MAX_VALUE}};
        for (long[] pair : wrong) {
            Due.is("18: not 0 <= i < n", desk.tape(Known.SOME + Known.SOME).x.isIn(pair[0], pair[1]), false);
        }
        Due.is("18: used up where it is false", desk.tapeIsEmpty(), true);
    }

    private static void isInOfGreatNumbers() {
        byte[] leaf = Desk.hex(Known.SOME);
        long top = Long.MAX_VALUE;
        for (long[] pair : new long[][] {{0, top}, {top - 1, top}, {1L << 62, top}, {(1L << 62) - 1, 1L << 62},
            {1L << 62, (1L << 62) + 1}, {0x123456789abcdefL, 1L << 57}}) {
            byte[] digests = new byte[32 * Reference.wayDigests(pair[0], pair[1])];
            byte[] root = Reference.rootByWay(leaf, pair[0], pair[1],
                    Reference.digestsFrom(digests, 0).iterator());
            byte[] told = Reference.join(root, leaf, digests);
            Desk desk = new Desk();
            Due.is("18: great numbers", desk.tape(told).x.isIn(pair[0], pair[1]), true);
            told[told.length - 1] ^= 1;
            Due.is("18: great numbers, changed", desk.tape(told).x.isIn(pair[0], pair[1]), false);
        }
        Due.is("18: the most digests", Reference.wayDigests(0, top), 63);
    }

    private static void isOn() {
        Desk desk = new Desk();
        String told = Known.ROOTS[6] + Known.ROOTS[8] + Known.ROOT_4_6 + Known.ROOT_6_8 + Known.ROOTS[4];
        Due.is("19: 6 and 8", desk.tape(told).x.isOn(6, 8), true);
        Due.is("19: used up", desk.tapeIsEmpty(), true);
        Due.is("19: another m", desk.tape(told).x.isOn(5, 8), false);
        Due.is("19: another n", desk.tape(told).x.isOn(6, 9), false);
        Due.is("19: another first ROOT", desk.tape(Known.SOME + told.substring(64)).x.isOn(6, 8), false);
        String nearly = Known.ROOTS[6].substring(0, 63) + "e";
        Due.is("19: nearly the first ROOT", desk.tape(nearly + told.substring(64)).x.isOn(6, 8), false);
        Due.is("19: another second ROOT",
                desk.tape(Known.ROOTS[6] + Known.SOME + told.substring(128)).x.isOn(6, 8), false);
        Due.is("19: a byte behind", desk.tape(told + "00").x.isOn(6, 8), false);
        Due.is("19: a digest behind", desk.tape(told + Known.SOME).x.isOn(6, 8), false);
        Due.is("19: a digest too few", desk.tape(told.substring(0, 256)).x.isOn(6, 8), false);
        Due.is("19: a byte too few", desk.tape(told.substring(0, 318)).x.isOn(6, 8), false);
        Due.is("19: m a power of 2", desk.tape(Known.ROOTS[4] + Known.ROOTS[8] + Known.ROOT_4_8).x.isOn(4, 8), true);
        Due.is("19: its first ROOT changed",
                desk.tape(Known.SOME + Known.ROOTS[8] + Known.ROOT_4_8).x.isOn(4, 8), false);
        Due.is("19: m is n", desk.tape(Known.SOME + Known.SOME).x.isOn(3, 3), true);
        Due.is("19: m is n, nearly the ROOT", desk.tape(Known.SOME + Known.NEARLY).x.isOn(3, 3), false);
        Due.is("19: m is n, unlike ROOTS", desk.tape(Known.SOME + Known.OTHER).x.isOn(3, 3), false);
        Due.is("19: m is n, a digest", desk.tape(Known.SOME + Known.SOME + Known.SOME).x.isOn(3, 3), false);
        Due.is("19: one ROOT", desk.tape(Known.SOME).x.isOn(3, 3), false);
        Due.is("19: nothing", desk.x.isOn(3, 3), false);
        long[][] wrong = {{0, 0}, {0, 1}, {-1, -1}, {2, 1}, {Long.MIN_VALUE, Long.MAX_VALUE},
            {Long.MAX_VALUE, Long.MIN_VALUE}, {Long.MIN_VALUE, Long.MIN_VALUE}};
        for (long[] pair : wrong) {
            Due.is("19: not 0 < m <= n", desk.tape(Known.SOME + Known.SOME).x.isOn(pair[0], pair[1]), false);
        }
        Due.is("19: used up where it is false", desk.tapeIsEmpty(), true);
    }

    private static void isOnOfGreatNumbers() {
        long top = Long.MAX_VALUE;
        for (long[] pair : new long[][] {{1, top}, {top - 1, top}, {top, top}, {1L << 62, top},
            {(1L << 62) + 1, top}, {(1L << 62) - 1, 1L << 62}, {0x123456789abcdefL, 1L << 57}}) {
            byte[] digests = new byte[32 * Reference.stepDigests(pair[0], pair[1], true)];
            byte[][] roots = Reference.rootsBySteps(Desk.hex(Known.SOME), pair[0], pair[1], true,
                    Reference.digestsFrom(digests, 0).iterator());
            byte[] told = Reference.join(roots[0], roots[1], digests);
            Desk desk = new Desk();
            Due.is("19: great numbers", desk.tape(told).x.isOn(pair[0], pair[1]), true);
            told[32] ^= 1;
            Due.is("19: great numbers, changed", desk.tape(told).x.isOn(pair[0], pair[1]), false);
        }
        Due.is("19: the most digests", Reference.stepDigests((1L << 61) + 1, 1L << 62, true), 63);
    }

    private static void isSealed() {
        Desk desk = known();
        desk.tape("6b").x.key(1);
        desk.x.head(0, 0);
        String head = desk.out();
        Due.is("20: sealed", desk.tape(head).x.isSealed(0), true);
        Due.is("20: used up", desk.tapeIsEmpty(), true);
        Due.is("20: by the other LOG", desk.tape(head).x.isSealed(1), false);
        for (int at : new int[] {0, 15, 16, 95, 96, 159}) {
            char other = head.charAt(at) == '0' ? '1' : '0';
            String changed = head.substring(0, at) + other + head.substring(at + 1);
            Due.is("20: changed at " + at, desk.tape(changed).x.isSealed(0), false);
        }
        Due.is("20: numbers below 0", desk.tape(Desk.sealed("6b", -1, -1, Known.SOME)).x.isSealed(1), true);
        for (int n : new int[] {0, 79, 81, 112}) {
            Due.raises("20: not 80 bytes", Due.NO_ARGUMENT, () -> desk.sevens(n).x.isSealed(0));
        }
        for (int log : Known.NO_LOGS) {
            Due.raises("20: no such LOG", Due.NO_INDEX, () -> desk.tape("00").x.isSealed(log));
        }
    }

    private static void seal() {
        Desk desk = known();
        String told = "ffffffffffffffff" + "8000000000000000" + Known.SOME;
        Due.is("21: seal", desk.tape(told).x.seal(0), true);
        Due.is("21: used up", desk.tapeIsEmpty(), true);
        Due.is("21: HEAD", desk.out(), Desk.text(Reference.sealed(new byte[0], Desk.hex(told))));
        Due.is("21: the LOG does not keep it", desk.x.size(0, 2), 1);
        Due.is("21: nor its SIZE", desk.x.size(0, 1), 8);
        desk.x.head(0, 0);
        String head = desk.out();
        Due.is("21: as cut does", desk.tape(head.substring(0, 96)).x.seal(0), true);
        Due.is("21: the same HEAD", desk.out(), head);
        for (int n : new int[] {0, 47, 49, 80}) {
            Due.raises("21: not 48 bytes", Due.NO_ARGUMENT, () -> desk.sevens(n).x.seal(0));
        }
        for (int log : Known.NO_LOGS) {
            Due.raises("21: no such LOG", Due.NO_INDEX, () -> desk.tape("00").x.seal(log));
        }
    }

    private static void sealWithLongKeys() {
        Desk desk = new Desk();
        String told = "0000000000000001" + "0000000000000002" + Known.OTHER;
        // HMAC hashes a KEY that is longer than a block of 64 bytes; a shorter one behind it is padded anew.
        for (int n : new int[] {1, 63, 64, 65, 100, 32, 3, 0}) {
            byte[] key = new byte[n];
            java.util.Arrays.fill(key, (byte) 0xa5);
            desk.tape(key).x.key(0);
            desk.tape(Reference.sealed(key, Desk.hex(told)));
            Due.is("21: KEY of " + n, desk.x.isSealed(0), true);
        }
    }

    private static int follow(Desk desk, int witness, String head, String digests) {
        return desk.tape(head + digests).x.follow(witness, 0);
    }

    private static void followVerdicts() {
        Desk desk = new Desk();
        desk.tape("6b").x.key(0);
        String good = Desk.sealed("6b", 10, 4, Known.ROOTS[4]);
        Due.is("22: the SEAL of another LOG", follow(desk, 0, Desk.sealed("", 10, 4, Known.ROOTS[4]), ""), 1);
        Due.is("22: TIME below 0", follow(desk, 0, Desk.sealed("6b", -1, 4, Known.ROOTS[4]), ""), 1);
        Due.is("22: SIZE below 0", follow(desk, 0, Desk.sealed("6b", 10, -4, Known.ROOTS[4]), ""), 1);
        Due.is("22: a wrong SEAL before digests", follow(desk, 0, good.substring(0, 158) + "00", Known.SOME), 1);
        Due.raises("22: it has none yet", Due.NO_ELEMENT, () -> desk.x.has(0, 0, 0));
        Due.is("22: digests with the first", follow(desk, 0, good, Known.SOME), 4);
        Due.is("22: the first", follow(desk, 0, good, ""), 0);
        Due.is("22: used up", desk.tapeIsEmpty(), true);
        Due.is("22: smaller", follow(desk, 0, Desk.sealed("6b", 9, 3, Known.ROOTS[3]), Known.SOME), 2);
        Due.is("22: a split", follow(desk, 0, Desk.sealed("6b", 9, 4, Known.SOME), Known.SOME), 3);
        Due.is("22: digests with the same", follow(desk, 0, good, Known.SOME), 4);
        Due.is("22: wrong digests before TIME",
                follow(desk, 0, Desk.sealed("6b", 9, 8, Known.ROOTS[8]), Known.SOME), 4);
        Due.is("22: earlier", follow(desk, 0, Desk.sealed("6b", 9, 8, Known.ROOTS[8]), Known.ROOT_4_8), 5);
        Due.is("22: the same, earlier", follow(desk, 0, Desk.sealed("6b", 9, 4, Known.ROOTS[4]), ""), 5);
        Due.is("22: the same, later", follow(desk, 0, Desk.sealed("6b", 11, 4, Known.ROOTS[4]), ""), 0);
        desk.x.has(0, 0, 0);
        Due.is("22: it has the later one", desk.out().substring(0, 16), "000000000000000b");
        Due.is("22: now earlier", follow(desk, 0, good, ""), 5);
        Due.is("22: it goes on", follow(desk, 0, Desk.sealed("6b", 11, 8, Known.ROOTS[8]), Known.ROOT_4_8), 0);
        desk.x.has(0, 0, 0);
        Due.is("22: it has the greater one", desk.out().substring(0, 32), "000000000000000b0000000000000008");
        Due.is("22: smaller since then", follow(desk, 0, good, ""), 2);
        Due.is("22: greatest numbers",
                follow(desk, 3, Desk.sealed("6b", Long.MAX_VALUE, Long.MAX_VALUE, Known.SOME), ""), 0);
    }

    private static void followDigests() {
        Desk desk = new Desk();
        Due.is("22: of SIZE 0", follow(desk, 1, Desk.sealed("", 0, 0, Known.NO_LEAVES), ""), 0);
        Due.is("22: digests behind SIZE 0", follow(desk, 1, Desk.sealed("", 0, 6, Known.ROOTS[6]), Known.SOME), 4);
        Due.is("22: none behind SIZE 0", follow(desk, 1, Desk.sealed("", 0, 6, Known.ROOTS[6]), ""), 0);
        String next = Desk.sealed("", 0, 8, Known.ROOTS[8]);
        String digests = Known.ROOT_4_6 + Known.ROOT_6_8 + Known.ROOTS[4];
        Due.is("22: none", follow(desk, 1, next, ""), 4);
        Due.is("22: one too few", follow(desk, 1, next, Known.ROOT_4_6 + Known.ROOT_6_8), 4);
        Due.is("22: one too many", follow(desk, 1, next, digests + Known.SOME), 4);
        Due.is("22: in another order", follow(desk, 1, next, Known.ROOT_6_8 + Known.ROOT_4_6 + Known.ROOTS[4]), 4);
        Due.is("22: to another ROOT", follow(desk, 1, Desk.sealed("", 0, 8, Known.SOME), digests), 4);
        Due.is("22: right", follow(desk, 1, next, digests), 0);
        Due.is("22: of another ROOT of that SIZE", follow(desk, 2, Desk.sealed("", 0, 6, Known.SOME), ""), 0);
        Due.is("22: not from that one", follow(desk, 2, next, digests), 4);
        Due.is("22: unlike ROOTS of SIZE 0", follow(desk, 3, Desk.sealed("", 0, 0, Known.SOME), ""), 0);
        Due.is("22: are a split", follow(desk, 3, Desk.sealed("", 0, 0, Known.OTHER), ""), 3);
        Due.is("22: nearly one ROOT", follow(desk, 2, Desk.sealed("", 0, 6, Known.NEARLY), ""), 3);
        // A new KEY: what was sealed before is not as by it just now.
        desk.tape("6b").x.key(0);
        Due.is("22: the KEY before", follow(desk, 1, next, ""), 1);
        Due.is("22: the KEY just now", follow(desk, 1, Desk.sealed("6b", 0, 8, Known.ROOTS[8]), ""), 0);
    }

    private static void followEvidence() {
        Desk desk = new Desk();
        String held = Desk.sealed("", 1, 4, Known.ROOTS[4]);
        String split = Desk.sealed("", 0, 4, Known.SOME);
        follow(desk, 0, held, "");
        Due.is("22: split", follow(desk, 0, split, Known.OTHER), 3);
        desk.x.has(0, 0, 0);
        Due.is("22: its HEAD stays", desk.out(), held);
        desk.x.has(0, 0, 1);
        Due.is("22: its HEAD is EVIDENCE", desk.out(), held);
        desk.x.has(0, 0, 2);
        Due.is("22: and this one", desk.out(), split);
        Due.is("22: another split", follow(desk, 0, Desk.sealed("", 9, 4, Known.OTHER), ""), 3);
        Due.is("22: goes on", follow(desk, 0, Desk.sealed("", 9, 8, Known.ROOTS[8]), Known.ROOT_4_8), 0);
        desk.x.has(0, 0, 1);
        Due.is("22: the first EVIDENCE stays", desk.out(), held);
        Due.raises("22: of the other LOG none", Due.NO_ELEMENT, () -> desk.x.has(0, 1, 1));
        Due.raises("22: of another WITNESS none", Due.NO_ELEMENT, () -> desk.x.has(1, 0, 1));
    }

    private static void followWrong() {
        Desk desk = new Desk();
        for (int n : new int[] {0, 32, 79, 81, 111, 113, 96}) {
            Due.raises("22: bytes", Due.NO_ARGUMENT, () -> desk.sevens(n).x.follow(0, 0));
        }
        Due.is("22: whole digests", desk.sevens(144).x.follow(0, 0), 1);
        for (int log : Known.NO_LOGS) {
            Due.raises("22: no such LOG", Due.NO_INDEX, () -> desk.sevens(79).x.follow(0, log));
        }
        for (int witness : Known.NO_WITNESSES) {
            Due.raises("22: no such WITNESS", Due.NO_INDEX, () -> desk.sevens(79).x.follow(witness, 1));
        }
    }

    private static void gossip() {
        Desk desk = new Desk();
        Due.is("23: neither has one", desk.x.gossip(0, 1, 0), 0);
        follow(desk, 0, Desk.sealed("", 1, 4, Known.ROOTS[4]), "");
        Due.is("23: the second has none", desk.x.gossip(0, 1, 0), 0);
        Due.is("23: the first has none", desk.x.gossip(1, 0, 0), 0);
        Due.is("23: with itself", desk.x.gossip(0, 0, 0), 0);
        follow(desk, 1, Desk.sealed("", 2, 4, Known.ROOTS[4]), "");
        Due.is("23: one SIZE and ROOT", desk.x.gossip(0, 1, 0), 0);
        follow(desk, 2, Desk.sealed("", 0, Long.MAX_VALUE, Known.SOME), "");
        follow(desk, 3, Desk.sealed("", 0, Long.MAX_VALUE, Known.NEARLY), "");
        Due.is("23: nearly one ROOT", desk.x.gossip(3, 2, 0), 3);
        Due.is("23: the first is greater", desk.x.gossip(2, 0, 0), 1);
        Due.is("23: the second is greater", desk.x.gossip(0, 2, 0), 2);
        desk.x.has(0, 0, 0);
        Due.is("23: no HEAD is taken over", desk.out().substring(16, 32), "0000000000000004");
        Due.is("23: the other LOG", desk.x.gossip(0, 2, 1), 0);
        Due.raises("23: none is EVIDENCE", Due.NO_ELEMENT, () -> desk.x.has(0, 0, 1));
        desk.tape("0102");
        desk.x.gossip(0, 1, 0);
        Due.is("23: the TAPE stays", desk.x.end(2), true);
        for (int log : Known.NO_LOGS) {
            Due.raises("23: no such LOG", Due.NO_INDEX, () -> desk.x.gossip(0, 1, log));
        }
        for (int witness : Known.NO_WITNESSES) {
            Due.raises("23: no such first", Due.NO_INDEX, () -> desk.x.gossip(witness, 1, 0));
            Due.raises("23: no such second", Due.NO_INDEX, () -> desk.x.gossip(1, witness, 0));
        }
    }

    private static void gossipEvidence() {
        Desk desk = new Desk();
        String one = Desk.sealed("", 1, 4, Known.ROOTS[4]);
        String two = Desk.sealed("", 1, 4, Known.SOME);
        String three = Desk.sealed("", 1, 4, Known.OTHER);
        // The three are told apart by the first byte of the ROOT, for reading them whole would need too many calls.
        follow(desk, 0, one, "");
        follow(desk, 1, two, "");
        follow(desk, 2, three, "");
        Due.is("23: split", desk.x.gossip(1, 0, 0), 3);
        for (int witness = 0; witness < 2; witness++) {
            desk.x.has(witness, 0, 1);
            Due.is("23: the first WITNESS' one first", desk.x.out(16), 0x11);
            desk.x.has(witness, 0, 2);
            Due.is("23: then the second's", desk.x.out(16), 0xd3);
        }
        Due.is("23: split again", desk.x.gossip(0, 2, 0), 3);
        desk.x.has(0, 0, 1);
        Due.is("23: the first EVIDENCE stays", desk.x.out(16), 0x11);
        desk.x.has(2, 0, 1);
        Due.is("23: who had none has it", desk.x.out(16), 0xd3);
        desk.x.has(2, 0, 2);
        Due.is("23: who had none has it", desk.x.out(16), 0x22);
        desk.x.has(2, 0, 0);
        Due.is("23: its HEAD stays", desk.x.out(16), 0x22);
        Due.raises("23: of the other LOG none", Due.NO_ELEMENT, () -> desk.x.has(0, 1, 1));
    }

    private static void has() {
        Desk desk = new Desk();
        String head = Desk.sealed("", 3, 4, Known.ROOTS[4]);
        String other = Desk.sealed("", 3, 4, Known.SOME);
        desk.tape(head).x.follow(3, 1);
        Due.is("24: has", desk.x.has(3, 1, 0), true);
        Due.is("24: HEAD", desk.out(), head);
        Due.raises("24: no EVIDENCE", Due.NO_ELEMENT, () -> desk.x.has(3, 1, 1));
        Due.raises("24: no EVIDENCE", Due.NO_ELEMENT, () -> desk.x.has(3, 1, 2));
        desk.tape(other).x.follow(3, 1);
        Due.is("24: first", desk.x.has(3, 1, 1), true);
        Due.is("24: EVIDENCE", desk.out(), head);
        Due.is("24: second", desk.x.has(3, 1, 2), true);
        Due.is("24: EVIDENCE", desk.out(), other);
        for (int which : new int[] {-1, 3, Integer.MIN_VALUE, Integer.MAX_VALUE}) {
            Due.raises("24: another which", Due.NO_ELEMENT, () -> desk.x.has(3, 1, which));
        }
        Due.raises("24: another LOG", Due.NO_ELEMENT, () -> desk.x.has(3, 0, 0));
        Due.raises("24: another WITNESS", Due.NO_ELEMENT, () -> desk.x.has(2, 1, 0));
        for (int log : Known.NO_LOGS) {
            Due.raises("24: no such LOG", Due.NO_INDEX, () -> desk.x.has(0, log, 9));
        }
        for (int witness : Known.NO_WITNESSES) {
            Due.raises("24: no such WITNESS", Due.NO_INDEX, () -> desk.x.has(witness, 0, 9));
        }
    }

    private static void usedUpWhateverComes() {
        Desk desk = new Desk();
        desk.x.cut(0, 0);
        Due.Call[] calls = {
            () -> desk.x.key(2), () -> desk.x.key(1), () -> desk.x.submit(2), () -> desk.x.submit(0),
            () -> desk.x.find(2), () -> desk.x.find(0), () -> desk.x.isSealed(2), () -> desk.x.isSealed(0),
            () -> desk.x.seal(2), () -> desk.x.seal(0), () -> desk.x.follow(4, 0), () -> desk.x.follow(0, 0)
        };
        for (int i = 0; i < calls.length; i++) {
            desk.sevens(123);
            Due.raises("used up: call " + i, i % 2 == 0 ? Due.NO_INDEX : Due.NO_ARGUMENT, calls[i]);
            Due.is("used up behind call " + i, desk.tapeIsEmpty(), true);
        }
        desk.sevens(3);
        Due.raises("used up: key", Due.NO_STATE, () -> desk.x.key(0));
        Due.is("used up behind key", desk.tapeIsEmpty(), true);
    }

    private static void outStaysWhereACallThrows() {
        Desk desk = known();
        desk.x.root(0, 8);
        Due.Call[] calls = {
            () -> desk.x.head(0, 1), () -> desk.x.entry(0, 8), () -> desk.x.leaf(0, 8), () -> desk.x.root(0, 9),
            () -> desk.x.way(0, 8, 8), () -> desk.x.proof(0, 0, 8), () -> desk.x.has(0, 0, 0)
        };
        for (Due.Call call : calls) {
            Due.raises("OUT: it throws", Due.NO_ELEMENT, call);
            Due.is("OUT stays", desk.out(), Known.ROOTS[8]);
        }
        Due.raises("OUT: seal throws", Due.NO_ARGUMENT, () -> desk.tape("00").x.seal(0));
        Due.is("OUT stays", desk.out(), Known.ROOTS[8]);
    }
}
