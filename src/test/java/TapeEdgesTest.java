/** The sentences of promises 1 to 6: a new object, the TAPE and OUT. */
public final class TapeEdgesTest {
    private TapeEdgesTest() {
    }

    public static void main(String[] args) {
        Sentences all = new Sentences("Promise 1", "Promise 2", "Promise 3", "Promise 4", "Promise 5", "Promise 6");
        all.hold("Promise 1", "Two LOGS without KEYS, ENTRIES, HEADS", TapeEdgesTest::newLogs);
        all.hold("Promise 1", "WITNESSES that have nothing", TapeEdgesTest::newWitnesses);
        all.hold("Promise 1", "TAPE and OUT are empty", TapeEdgesTest::newTapeAndOut);
        all.hold("Promise 2", "Twenty bytes come behind the TAPE, of each number the highest first: how many it has",
                TapeEdgesTest::feedBrings);
        all.hold("Promise 2", "NONE, and none come, if it would have more than 2,200", TapeEdgesTest::feedRefused);
        all.hold("Promise 3", "The TAPE has its first n bytes alone: true", TapeEdgesTest::endCuts);
        all.hold("Promise 3", "false, and nothing happens, if it has fewer", TapeEdgesTest::endBeyond);
        all.hold("Promise 3", "or n is below 0", TapeEdgesTest::endBelow);
        all.hold("Promise 4", "OUT comes behind the TAPE: how many bytes it has then", TapeEdgesTest::againBrings);
        all.hold("Promise 4", "NONE, and nothing comes, if these would be more than 2,200",
                TapeEdgesTest::againRefused);
        all.hold("Promise 5", "Byte i of OUT, 0 to 255", TapeEdgesTest::outBytes);
        all.hold("Promise 5", "NONE if there is none", TapeEdgesTest::outNone);
        all.hold("Promise 6", "How many bytes OUT has", TapeEdgesTest::outsCounts);
        all.done("TapeEdgesTest");
    }

    private static void newLogs() {
        // Another object that is in use has no part in a new one.
        House.furnish(new Desk());
        for (int log = 0; log < 2; log++) {
            Desk desk = new Desk();
            int its = log;
            for (int what = 0; what < 4; what++) {
                Due.is("size of LOG " + log + ", what " + what, desk.x.size(log, what), 0);
            }
            Due.raises("its HEAD 0", Due.NO_ELEMENT, () -> desk.x.head(its, 0));
            Due.raises("its ENTRY 0", Due.NO_ELEMENT, () -> desk.x.entry(its, 0));
            Due.raises("its LEAF 0", Due.NO_ELEMENT, () -> desk.x.leaf(its, 0));
            Due.raises("its ROOT of 1", Due.NO_ELEMENT, () -> desk.x.root(its, 1));
            Due.is("its ROOT of none", desk.x.root(log, 0), true);
            Due.is("that ROOT", desk.out(), Known.NO_LEAVES);
            String head = Desk.sealed("", 0, 0, Known.SOME);
            Due.is("sealed without a KEY", desk.tape(head).x.isSealed(log), true);
            Due.is("its first ENTRY's number", desk.submit(log, "aa"), 0);
            Due.is("its first HEAD's number", desk.x.cut(log, 0), 0);
        }
        for (int log : Known.NO_LOGS) {
            Due.raises("a third LOG", Due.NO_INDEX, () -> new LeafWitness().size(log, 0));
        }
    }

    private static void newWitnesses() {
        House.furnish(new Desk());
        LeafWitness x = new LeafWitness();
        for (int log = 0; log < 2; log++) {
            for (int witness = 0; witness < 4; witness++) {
                for (int which = 0; which < 3; which++) {
                    String what = "has(" + witness + ", " + log + ", " + which + ")";
                    int[] all = {witness, log, which};
                    Due.raises(what, Due.NO_ELEMENT, () -> x.has(all[0], all[1], all[2]));
                }
                Due.is("gossip", x.gossip(witness, 3 - witness, log), 0);
            }
        }
    }

    private static void newTapeAndOut() {
        Due.is("end(1)", new LeafWitness().end(1), false);
        Due.is("end(0)", new LeafWitness().end(0), true);
        Due.is("the first feed", new LeafWitness().feed(1, 2, 3, 4, 5), 20);
        Due.is("outs()", new LeafWitness().outs(), 0);
        Due.is("out(0)", new LeafWitness().out(0), -1);
        Due.is("again()", new LeafWitness().again(), 0);
        LeafWitness x = new LeafWitness();
        Due.is("an ENTRY of the empty TAPE", x.submit(0), 0);
        Due.is("its bytes", x.entry(0, 0), 0);
    }

    private static void feedBrings() {
        Desk desk = new Desk();
        Due.is("behind none", desk.x.feed(0x01020304, 0x80000000, 0x7fffffff, -1, 0xfffefdfc), 20);
        Due.is("behind 20", desk.x.feed(0, 0x00ff00ff, 0x0000007f, 0x00008000, 0x00800000), 40);
        desk.x.submit(0);
        Due.is("the ENTRY of it", desk.x.entry(0, 0), 40);
        Due.is("its bytes", desk.out(), "01020304800000007ffffffffffffffffffefdfc"
                + "0000000000ff00ff0000007f0000800000800000");
        desk.x.feed(5, 5, 5, 5, 5);
        desk.x.end(3);
        Due.is("behind 3", desk.x.feed(0x0a0b0c0d, 0, 0, 0, 0), 23);
        desk.x.end(7);
        desk.x.submit(0);
        desk.x.entry(0, 1);
        Due.is("where the end was", desk.out(), "0000000a0b0c0d");
    }

    private static void feedTo(LeafWitness x, int bytes) {
        for (int had = 0; had < bytes; had += 20) {
            x.feed(had, 1, 2, 3, 4);
        }
        x.end(bytes);
    }

    private static void feedRefused() {
        for (int had = 2178; had <= 2200; had++) {
            LeafWitness x = new LeafWitness();
            feedTo(x, had);
            Due.is("feed behind " + had, x.feed(-1, -1, -1, -1, -1), had <= 2180 ? had + 20 : -1);
            int has = had <= 2180 ? had + 20 : had;
            Due.is("one more than it has", x.end(has + 1), false);
            Due.is("as many as it has", x.end(has), true);
        }
        Aftermath.all("feed behind 2200", "-1", desk -> feedTo(desk.x, 2200), x -> x.feed(9, 9, 9, 9, 9));
        Aftermath.all("feed behind 2181", "-1", desk -> feedTo(desk.x, 2181), x -> x.feed(9, 9, 9, 9, 9));
        LeafWitness x = new LeafWitness();
        feedTo(x, 2200);
        x.feed(9, 9, 9, 9, 9);
        x.end(2180);
        Due.is("feed where there is room again", x.feed(9, 9, 9, 9, 9), 2200);
    }

    private static void endCuts() {
        for (int n : new int[] {0, 1, 19, 20}) {
            Desk desk = new Desk();
            desk.x.feed(0x01020304, 0x05060708, 0x090a0b0c, 0x0d0e0f10, 0x11121314);
            Due.is("end(" + n + ")", desk.x.end(n), true);
            desk.x.submit(0);
            Due.is("bytes left", desk.x.entry(0, 0), n);
            Due.is("the first ones", desk.out(), "0102030405060708090a0b0c0d0e0f1011121314".substring(0, 2 * n));
        }
        LeafWitness x = new LeafWitness();
        Due.is("end(0) of none", x.end(0), true);
        feedTo(x, 2200);
        Due.is("end(2200) of 2200", x.end(2200), true);
        Due.is("end(2199) of 2200", x.end(2199), true);
        Due.is("end(0) of 2199", x.end(0), true);
        Due.is("none is left", Aftermath.tapeLength(x), 0);
    }

    private static void endBeyond() {
        Aftermath.all("end(1) of none", "false", House::furnish, x -> x.end(1));
        Aftermath.all("end(21) of 20", "false", House.withSevens(20), x -> x.end(21));
        Aftermath.all("end(8) of 7", "false", House.withSevens(7), x -> x.end(8));
        Aftermath.all("end(2201) of 2200", "false", desk -> feedTo(desk.x, 2200), x -> x.end(2201));
        Aftermath.all("end(greatest)", "false", House.withSevens(20), x -> x.end(Integer.MAX_VALUE));
        Desk desk = new Desk();
        desk.x.feed(1, 2, 3, 4, 5);
        desk.x.end(4);
        Due.is("bytes that an end cut off", desk.x.end(5), false);
    }

    private static void endBelow() {
        Aftermath.all("end(-1) of none", "false", House::furnish, x -> x.end(-1));
        Aftermath.all("end(-1) of 20", "false", House.withSevens(20), x -> x.end(-1));
        Aftermath.all("end(lowest)", "false", House.withSevens(20), x -> x.end(Integer.MIN_VALUE));
    }

    private static void againBrings() {
        Desk desk = new Desk();
        Due.is("no OUT behind no TAPE", desk.x.again(), 0);
        desk.submit(0, "a1b2c3");
        desk.x.entry(0, 0);
        desk.x.feed(0x01020304, 0, 0, 0, 0);
        desk.x.end(2);
        Due.is("3 bytes behind 2", desk.x.again(), 5);
        Due.is("and again", desk.x.again(), 8);
        Due.is("OUT stays", desk.out(), "a1b2c3");
        desk.x.submit(0);
        desk.x.entry(0, 1);
        Due.is("the bytes", desk.out(), "0102a1b2c3a1b2c3");
        Desk full = new Desk();
        feedTo(full.x, 2200);
        Due.is("no OUT behind a full TAPE", full.x.again(), 2200);
    }

    /** OUT is the longest that there is, a PROOF of nine digests. */
    private static void longestOut(LeafWitness x) {
        House.fill(x, 0, 129);
        x.cut(0, 0);
        x.proof(0, 127, 129);
    }

    private static void againRefused() {
        for (int had = 2196; had <= 2200; had++) {
            Desk desk = new Desk();
            desk.submit(0, "a1b2c3");
            desk.x.entry(0, 0);
            feedTo(desk.x, had);
            Due.is("3 bytes behind " + had, desk.x.again(), had <= 2197 ? had + 3 : -1);
            int has = had <= 2197 ? had + 3 : had;
            Due.is("one more than it has", desk.x.end(has + 1), false);
            Due.is("as many as it has", desk.x.end(has), true);
        }
        for (int had = 1911; had <= 1914; had++) {
            LeafWitness x = new LeafWitness();
            longestOut(x);
            feedTo(x, had);
            Due.is("288 bytes behind " + had, x.again(), had <= 1912 ? had + 288 : -1);
        }
        Aftermath.all("2 bytes behind 2199", "-1", House.withSevens(2199), x -> x.again());
        Aftermath.all("2 bytes behind 2200", "-1", House.withSevens(2200), x -> x.again());
    }

    private static void outBytes() {
        byte[] every = new byte[120];
        for (int start : new int[] {0, 120, 136}) {
            for (int i = 0; i < 120; i++) {
                every[i] = (byte) (start + i);
            }
            Desk desk = new Desk();
            desk.tape(every).x.submit(0);
            desk.x.entry(0, 0);
            for (int i = 0; i < 120; i++) {
                Due.is("out(" + i + ")", desk.x.out(i), start + i);
            }
        }
        LeafWitness x = new LeafWitness();
        longestOut(x);
        Due.is("whether byte 287 of the longest OUT is there", x.out(287) >= 0, true);
        Due.is("byte 288 of it", x.out(288), -1);
    }

    private static void outNone() {
        Desk desk = new Desk();
        for (int i : new int[] {-1, 0, 1, Integer.MIN_VALUE, Integer.MAX_VALUE}) {
            Due.is("out(" + i + ") of no OUT", desk.x.out(i), -1);
        }
        desk.submit(0, "ffffffff");
        desk.submit(0, "00");
        desk.submit(0, "");
        desk.x.entry(0, 0);
        Due.is("the last byte", desk.x.out(3), 255);
        for (int i : new int[] {-1, 4, 5, 288, 2200, Integer.MIN_VALUE, Integer.MAX_VALUE}) {
            Due.is("out(" + i + ") of 4 bytes", desk.x.out(i), -1);
        }
        desk.x.entry(0, 1);
        Due.is("out(0) of a shorter OUT", desk.x.out(0), 0);
        Due.is("out(1) where a longer OUT was", desk.x.out(1), -1);
        desk.x.entry(0, 2);
        Due.is("out(0) where a longer OUT was", desk.x.out(0), -1);
    }

    private static void outsCounts() {
        Desk desk = new Desk();
        Due.is("at first", desk.x.outs(), 0);
        desk.sevens(120).x.submit(0);
        desk.submit(0, "");
        desk.x.entry(0, 0);
        Due.is("an ENTRY of 120", desk.x.outs(), 120);
        desk.x.entry(0, 1);
        Due.is("an ENTRY of none", desk.x.outs(), 0);
        desk.x.cut(0, 0);
        desk.x.head(0, 0);
        Due.is("a HEAD", desk.x.outs(), 80);
        desk.x.way(0, 0, 1);
        Due.is("a WAY of no digests", desk.x.outs(), 0);
        desk.x.root(0, 0);
        Due.is("a ROOT of none", desk.x.outs(), 32);
        desk.x.out(31);
        desk.x.again();
        desk.x.outs();
        Due.is("where it is only read", desk.x.outs(), 32);
        LeafWitness x = new LeafWitness();
        longestOut(x);
        Due.is("the longest", x.outs(), 288);
    }
}
