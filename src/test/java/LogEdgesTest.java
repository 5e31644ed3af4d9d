/** The sentences of promises 7 to 14: a LOG's KEY, ENTRIES and HEADS, and what is read of them. */
public final class LogEdgesTest {
    private static final String NONE_SUCH = "NoSuchElementException: there is none such";

    private LogEdgesTest() {
    }

    public static void main(String[] args) {
        Sentences all = new Sentences("Promise 7", "Promise 8", "Promise 9", "Promise 10", "Promise 11",
                "Promise 12", "Promise 13", "Promise 14");
        keySentences(all);
        submitSentences(all);
        cutSentences(all);
        readSentences(all);
        all.done("LogEdgesTest");
    }

    private static void keySentences(Sentences all) {
        all.hold("Promise 7", "Uses the TAPE up: it is a LOG's KEY: how many bytes", LogEdgesTest::keyTaken);
        all.hold("Promise 7", "IndexOutOfBoundsException: there is no such LOG (here and below)",
                LogEdgesTest::noSuchLog);
        all.hold("Promise 7", "IllegalArgumentException: more than 100 bytes", LogEdgesTest::keyTooLong);
        all.hold("Promise 7", "IllegalStateException: it has a HEAD", LogEdgesTest::keyTooLate);
    }

    private static void submitSentences(Sentences all) {
        all.hold("Promise 8", "Uses the TAPE up: it is an ENTRY, which WAITS behind the others: its number",
                LogEdgesTest::submitWaits);
        all.hold("Promise 8", "If the LOG has an ENTRY of the same bytes that one's number, nothing comes",
                LogEdgesTest::submitTheSame);
        all.hold("Promise 8", "IllegalArgumentException: more than 120 bytes", LogEdgesTest::submitTooLong);
        all.hold("Promise 8", "IllegalStateException: there are 200", LogEdgesTest::submitTooMany);
        all.hold("Promise 8", "(and none of the same bytes)", LogEdgesTest::submitTheSameOf200);
    }

    private static void cutSentences(Sentences all) {
        all.hold("Promise 9", "All that WAIT are in the TREE; a HEAD of that TIME comes: its number",
                LogEdgesTest::cutTakesAll);
        all.hold("Promise 9", "IllegalArgumentException: time is below 0", LogEdgesTest::cutBelowZero);
        all.hold("Promise 9", "or below the latest HEAD's", LogEdgesTest::cutBelowLatest);
        all.hold("Promise 9", "IllegalStateException: there are 40", LogEdgesTest::cutTooMany);
    }

    private static void readSentences(Sentences all) {
        all.hold("Promise 10",
                "Of a LOG, what 0: how many ENTRIES, 1: SIZE, 2: how many HEADS, 3: bytes of its KEY",
                LogEdgesTest::sizes);
        all.hold("Promise 10", "NoSuchElementException: another what", LogEdgesTest::sizeOfAnother);
        all.hold("Promise 11", "OUT is HEAD k (80 bytes): its SIZE", LogEdgesTest::headShown);
        all.hold("Promise 11", NONE_SUCH, LogEdgesTest::noHead);
        all.hold("Promise 12", "OUT is ENTRY i: how many bytes", LogEdgesTest::entryShown);
        all.hold("Promise 12", NONE_SUCH, LogEdgesTest::noEntry);
        all.hold("Promise 13", "OUT is the LEAF of ENTRY i: true if that is in the TREE, false if it WAITS",
                LogEdgesTest::leafShown);
        all.hold("Promise 13", NONE_SUCH, LogEdgesTest::noLeaf);
        all.hold("Promise 14", "Uses the TAPE up: the number of the first ENTRY in the TREE whose LEAF it is",
                LogEdgesTest::findNumber);
        all.hold("Promise 14", "NONE if there is none", LogEdgesTest::findNone);
        all.hold("Promise 14", "IllegalArgumentException: it has not 32 bytes", LogEdgesTest::findNoLeaf);
    }

    private static void keyTaken() {
        for (int n : new int[] {0, 1, 63, 64, 65, 99, 100}) {
            Desk desk = new Desk();
            Due.is("a KEY of " + n, desk.sevens(n).x.key(1), n);
            Due.is("whether the TAPE is empty", desk.tapeIsEmpty(), true);
            Due.is("its bytes", desk.x.size(1, 3), n);
            Due.is("the other LOG's", desk.x.size(0, 3), 0);
            Due.is("whether it seals", desk.tape(Desk.sealed("07".repeat(n), 1, 2, Known.SOME)).x.isSealed(1), true);
        }
        Desk desk = new Desk();
        desk.sevens(100).x.key(0);
        Due.is("a shorter one in its place", desk.tape("0102").x.key(0), 2);
        Due.is("whether that seals", desk.tape(Desk.sealed("0102", 1, 2, Known.SOME)).x.isSealed(0), true);
        Due.is("none in its place", desk.x.key(0), 0);
        Due.is("whether none seals", desk.tape(Desk.sealed("", 1, 2, Known.SOME)).x.isSealed(0), true);
    }

    private static void noSuchLog() {
        for (int log : Known.NO_LOGS) {
            // The TAPE is right for no call, and no other argument is right: this exception is told first.
            Aftermath.Scene house = House.withSevens(121);
            Aftermath.allButTape("key(" + log + ")", Due.NO_INDEX, house, x -> x.key(log));
            Aftermath.allButTape("submit(" + log + ")", Due.NO_INDEX, house, x -> x.submit(log));
            Aftermath.all("cut(" + log + ", -1)", Due.NO_INDEX, house, x -> x.cut(log, -1));
            Aftermath.all("size(" + log + ", 4)", Due.NO_INDEX, house, x -> x.size(log, 4));
            Aftermath.all("head(" + log + ", -1)", Due.NO_INDEX, house, x -> x.head(log, -1));
            Aftermath.all("entry(" + log + ", -1)", Due.NO_INDEX, house, x -> x.entry(log, -1));
            Aftermath.all("leaf(" + log + ", -1)", Due.NO_INDEX, house, x -> x.leaf(log, -1));
            Aftermath.allButTape("find(" + log + ")", Due.NO_INDEX, house, x -> x.find(log));
            Aftermath.all("root(" + log + ", -1)", Due.NO_INDEX, house, x -> x.root(log, -1));
            Aftermath.all("way(" + log + ", -1, 0)", Due.NO_INDEX, house, x -> x.way(log, -1, 0));
            Aftermath.all("proof(" + log + ", 0, 0)", Due.NO_INDEX, house, x -> x.proof(log, 0, 0));
            Aftermath.allButTape("isSealed(" + log + ")", Due.NO_INDEX, house, x -> x.isSealed(log));
            Aftermath.allButTape("seal(" + log + ")", Due.NO_INDEX, house, x -> x.seal(log));
        }
    }

    private static void keyTooLong() {
        Aftermath.allButTape("101 bytes", Due.NO_ARGUMENT, House.withSevens(101), x -> x.key(1));
        Aftermath.allButTape("2200 bytes", Due.NO_ARGUMENT, House.withSevens(2200), x -> x.key(1));
        Aftermath.allButTape("101 bytes where there is a HEAD", Due.NO_ARGUMENT, House.withSevens(101), x -> x.key(0));
        Desk desk = new Desk();
        desk.tape("0102").x.key(0);
        Due.raises("101 bytes", Due.NO_ARGUMENT, () -> desk.sevens(101).x.key(0));
        Due.is("whether the KEY before still seals",
                desk.tape(Desk.sealed("0102", 1, 2, Known.SOME)).x.isSealed(0), true);
        Due.is("100 bytes", desk.sevens(100).x.key(0), 100);
    }

    private static void keyTooLate() {
        for (int n : new int[] {0, 1, 100}) {
            Aftermath.allButTape(n + " bytes", Due.NO_STATE, House.withSevens(n), x -> x.key(0));
        }
        Desk desk = new Desk();
        desk.submit(0, "00");
        desk.tape("00".repeat(48)).x.seal(0);
        desk.x.cut(1, 0);
        Due.is("ENTRIES, a HEAD sealed but not kept, and the other LOG's HEAD", desk.tape("6b").x.key(0), 1);
        desk.x.cut(0, 0);
        Due.raises("the first HEAD", Due.NO_STATE, () -> desk.tape("6b").x.key(0));
        LeafWitness x = new LeafWitness();
        House.cut(x, 0, 40, 0);
        Due.raises("40 HEADS", Due.NO_STATE, () -> x.key(0));
    }

    private static void submitWaits() {
        Desk desk = new Desk();
        int[] lengths = {0, 1, 2, 119, 120};
        for (int i = 0; i < lengths.length; i++) {
            Due.is("the number of " + lengths[i] + " bytes", desk.sevens(lengths[i]).x.submit(0), i);
            Due.is("whether the TAPE is empty", desk.tapeIsEmpty(), true);
            Due.is("ENTRIES", desk.x.size(0, 0), i + 1);
            Due.is("whether it is in the TREE", desk.x.leaf(0, i), false);
            Due.is("its bytes", desk.x.entry(0, i), lengths[i]);
        }
        Due.is("SIZE", desk.x.size(0, 1), 0);
        Due.is("the other LOG's first", desk.sevens(2).x.submit(1), 0);
        desk.x.cut(0, 0);
        Due.is("behind those in the TREE", desk.submit(0, "08"), 5);
        Due.is("whether it is in the TREE", desk.x.leaf(0, 5), false);
    }

    private static void submitTheSame() {
        for (int i = 0; i < 5; i++) {
            // The first three are in the TREE, the others WAIT; the first has no bytes.
            Aftermath.allButTape("ENTRY " + i, String.valueOf(i), House.withTape(Known.ENTRIES[i]), x -> x.submit(0));
        }
        Desk desk = new Desk();
        desk.submit(0, "0100");
        Due.is("a longer one", desk.submit(0, "010000"), 1);
        Due.is("a shorter one", desk.submit(0, "01"), 2);
        Due.is("one of none", desk.submit(0, ""), 3);
        Due.is("unlike in the last bit", desk.submit(0, "0101"), 4);
        Due.is("unlike in the first bit", desk.submit(0, "8100"), 5);
        Due.is("the same as the first", desk.submit(0, "0100"), 0);
        Due.is("the same as the last", desk.submit(0, "8100"), 5);
        Due.is("the same in the other LOG", desk.submit(1, "8100"), 0);
        desk.sevens(120).x.submit(0);
        byte[] nearly = new byte[120];
        java.util.Arrays.fill(nearly, (byte) 7);
        nearly[119] = 6;
        Due.is("120 bytes, unlike in the last", desk.tape(nearly).x.submit(0), 7);
        Due.is("the same 120 bytes", desk.sevens(120).x.submit(0), 6);
    }

    private static void submitTooLong() {
        Aftermath.allButTape("121 bytes", Due.NO_ARGUMENT, House.withSevens(121), x -> x.submit(0));
        Aftermath.allButTape("2200 bytes", Due.NO_ARGUMENT, House.withSevens(2200), x -> x.submit(1));
        Desk desk = new Desk();
        Due.raises("121 bytes", Due.NO_ARGUMENT, () -> desk.sevens(121).x.submit(0));
        Due.is("120 bytes", desk.sevens(120).x.submit(0), 0);
        Due.raises("121 bytes that begin as it does", Due.NO_ARGUMENT, () -> desk.sevens(121).x.submit(0));
    }

    /** LOG 0 has 200 ENTRIES, which WAIT. */
    private static void full(Desk desk) {
        House.fill(desk.x, 0, 200);
    }

    private static void submitTooMany() {
        Aftermath.allButTape("entry 200", Due.NO_STATE, desk -> {
            full(desk);
            desk.x.feed(200, 0, 0, 0, 0);
        }, x -> x.submit(0));
        Aftermath.allButTape("no bytes", Due.NO_STATE, LogEdgesTest::full, x -> x.submit(0));
        Aftermath.allButTape("121 bytes", Due.NO_ARGUMENT, desk -> {
            full(desk);
            desk.sevens(121);
        }, x -> x.submit(0));
        LeafWitness x = new LeafWitness();
        House.fill(x, 0, 199);
        Due.is("ENTRIES", x.size(0, 0), 199);
        x.cut(0, 0);
        x.feed(200, 0, 0, 0, 0);
        Due.is("the last that comes", x.submit(0), 199);
        Due.raises("the first that does not", Due.NO_STATE, () -> x.submit(0));
        x.feed(5, 5, 5, 5, 5);
        Due.raises("the next", Due.NO_STATE, () -> x.submit(0));
        Due.is("ENTRIES", x.size(0, 0), 200);
        x.cut(0, 0);
        Due.raises("none where all are in the TREE", Due.NO_STATE, () -> x.submit(0));
        Due.is("SIZE", x.size(0, 1), 200);
        Due.is("the other LOG", x.submit(1), 0);
    }

    private static void submitTheSameOf200() {
        for (int number : new int[] {0, 100, 199}) {
            Aftermath.allButTape("ENTRY " + number + " of 200", String.valueOf(number), desk -> {
                full(desk);
                desk.x.feed(number, 0, 0, 0, 0);
            }, x -> x.submit(0));
        }
    }

    private static void cutTakesAll() {
        Desk desk = new Desk();
        Due.is("the first HEAD, of none", desk.x.cut(0, 0), 0);
        Due.is("SIZE", desk.x.size(0, 1), 0);
        for (String entry : Known.ENTRIES) {
            desk.submit(0, entry);
        }
        desk.submit(1, "00");
        desk.tape("0102");
        Due.is("SIZE before", desk.x.size(0, 1), 0);
        Due.is("the next HEAD", desk.x.cut(0, 5), 1);
        Due.is("the TAPE's length", Aftermath.tapeLength(desk.x), 2);
        Due.is("OUT's length", desk.x.outs(), 0);
        Due.is("SIZE", desk.x.size(0, 1), 8);
        Due.is("the last ENTRY in the TREE", desk.x.leaf(0, 7), true);
        Due.is("the other LOG's SIZE", desk.x.size(1, 1), 0);
        desk.x.head(0, 1);
        Due.is("the HEAD", desk.out(), Desk.sealed("", 5, 8, Known.ROOTS[8]));
        Due.is("a HEAD though none WAITS", desk.x.cut(0, 5), 2);
        Due.is("HEADS", desk.x.size(0, 2), 3);
        Due.is("the greatest TIME", desk.x.cut(0, Long.MAX_VALUE), 3);
        desk.x.head(0, 3);
        Due.is("that HEAD", desk.out(), Desk.sealed("", Long.MAX_VALUE, 8, Known.ROOTS[8]));
        LeafWitness x = new LeafWitness();
        House.fill(x, 0, 200);
        x.cut(0, 0);
        Due.is("SIZE of 200", x.size(0, 1), 200);
        Due.is("the HEAD's SIZE", x.head(0, 0), 200);
    }

    private static void cutBelowZero() {
        for (long time : new long[] {-1, Long.MIN_VALUE, Integer.MIN_VALUE}) {
            Aftermath.all("LOG 0, " + time, Due.NO_ARGUMENT, House::furnish, x -> x.cut(0, time));
            Aftermath.all("LOG 1, " + time, Due.NO_ARGUMENT, House::furnish, x -> x.cut(1, time));
        }
        Due.is("0", new LeafWitness().cut(0, 0), 0);
    }

    private static void cutBelowLatest() {
        // The HEADS of LOG 0 are of TIME 3 and 7.
        for (long time : new long[] {6, 3, 2, 0}) {
            Aftermath.all("TIME " + time, Due.NO_ARGUMENT, House::furnish, x -> x.cut(0, time));
        }
        Desk desk = new Desk();
        House.furnish(desk);
        Due.is("the same TIME", desk.x.cut(0, 7), 2);
        Due.is("the next TIME", desk.x.cut(0, 8), 3);
        Due.raises("the TIME before", Due.NO_ARGUMENT, () -> desk.x.cut(0, 7));
        Due.is("the other LOG, which has none", desk.x.cut(1, 0), 0);
        Due.is("a TIME that no int has", desk.x.cut(0, 1L << 32), 4);
        Due.raises("one below", Due.NO_ARGUMENT, () -> desk.x.cut(0, (1L << 32) - 1));
        desk.x.cut(0, Long.MAX_VALUE);
        Due.raises("one below the greatest", Due.NO_ARGUMENT, () -> desk.x.cut(0, Long.MAX_VALUE - 1));
        Due.is("the greatest again", desk.x.cut(0, Long.MAX_VALUE), 6);
        // What a WITNESS took is not the LOG's own.
        desk.tape(Desk.sealed("", 99, 1, Known.SOME)).x.follow(1, 1);
        Due.is("below a HEAD that a WITNESS has", desk.x.cut(1, 1), 1);
    }

    /** LOG 0 has 40 HEADS of TIME 3, and an ENTRY WAITS. */
    private static void fullOfHeads(Desk desk) {
        House.cut(desk.x, 0, 40, 3);
        desk.submit(0, "aa");
    }

    private static void cutTooMany() {
        Aftermath.all("the same TIME", Due.NO_STATE, LogEdgesTest::fullOfHeads, x -> x.cut(0, 3));
        Aftermath.all("the greatest TIME", Due.NO_STATE, LogEdgesTest::fullOfHeads, x -> x.cut(0, Long.MAX_VALUE));
        Aftermath.all("an earlier TIME", Due.NO_ARGUMENT, LogEdgesTest::fullOfHeads, x -> x.cut(0, 2));
        Aftermath.all("a TIME below 0", Due.NO_ARGUMENT, LogEdgesTest::fullOfHeads, x -> x.cut(0, -1));
        LeafWitness x = new LeafWitness();
        House.cut(x, 0, 39, 0);
        Due.is("the last that comes", x.cut(0, 1), 39);
        Due.raises("the first that does not", Due.NO_STATE, () -> x.cut(0, 1));
        Due.is("HEADS", x.size(0, 2), 40);
        Due.is("an ENTRY behind it", x.submit(0), 0);
        Due.is("whether it is in the TREE", x.leaf(0, 0), false);
        Due.is("the other LOG", x.cut(1, 0), 0);
    }

    private static void sizes() {
        Desk desk = new Desk();
        House.furnish(desk);
        int[][] due = {{5, 3, 2, 1}, {1, 0, 0, 0}};
        for (int log = 0; log < 2; log++) {
            for (int what = 0; what < 4; what++) {
                Due.is("size(" + log + ", " + what + ")", desk.x.size(log, what), due[log][what]);
            }
        }
        Desk full = new Desk();
        full.sevens(100).x.key(1);
        House.fill(full.x, 1, 200);
        House.cut(full.x, 1, 40, 0);
        int[] most = {200, 200, 40, 100};
        for (int what = 0; what < 4; what++) {
            Due.is("the most of " + what, full.x.size(1, what), most[what]);
        }
        Aftermath.all("size", "5", House.withSevens(3), x -> x.size(0, 0));
    }

    private static void sizeOfAnother() {
        for (int what : new int[] {-1, 4, 5, Integer.MIN_VALUE, Integer.MAX_VALUE}) {
            Aftermath.all("what " + what, Due.NO_ELEMENT, House.withSevens(3), x -> x.size(0, what));
        }
    }

    private static void headShown() {
        Desk desk = new Desk();
        House.furnish(desk);
        desk.tape("0102");
        Due.is("the first one's SIZE", desk.x.head(0, 0), 1);
        Due.is("the first", desk.out(), Desk.sealed(House.KEY, 3, 1, Known.ROOTS[1]));
        Due.is("the last one's SIZE", desk.x.head(0, 1), 3);
        Due.is("its bytes", desk.x.outs(), 80);
        Due.is("the last", desk.out(), Desk.sealed(House.KEY, 7, 3, Known.ROOTS[3]));
        Due.is("the TAPE's length", Aftermath.tapeLength(desk.x), 2);
        Desk empty = new Desk();
        empty.x.cut(0, 0);
        Due.is("a HEAD of no LEAVES", empty.x.head(0, 0), 0);
        Due.is("its bytes", empty.out(), Desk.sealed("", 0, 0, Known.NO_LEAVES));
        LeafWitness full = new LeafWitness();
        House.cut(full, 0, 39, 0);
        full.submit(0);
        full.cut(0, 0);
        Due.is("HEAD 38 of 40", full.head(0, 38), 0);
        Due.is("HEAD 39 of 40", full.head(0, 39), 1);
    }

    private static void noHead() {
        for (int k : new int[] {-1, 2, 39, 40, Integer.MIN_VALUE, Integer.MAX_VALUE}) {
            Aftermath.all("HEAD " + k + " of 2", Due.NO_ELEMENT, House.withSevens(3), x -> x.head(0, k));
        }
        Aftermath.all("HEAD 0 of none", Due.NO_ELEMENT, House.withSevens(3), x -> x.head(1, 0));
        Aftermath.all("HEAD 40 of 40", Due.NO_ELEMENT, LogEdgesTest::fullOfHeads, x -> x.head(0, 40));
    }

    private static void entryShown() {
        Desk desk = new Desk();
        for (int n : new int[] {0, 1, 120}) {
            desk.sevens(n).x.submit(0);
        }
        desk.x.cut(0, 0);
        desk.sevens(119).x.submit(0);
        int[] lengths = {0, 1, 120, 119};
        for (int i = 0; i < 4; i++) {
            Due.is("bytes of ENTRY " + i, desk.x.entry(0, i), lengths[i]);
            Due.is("ENTRY " + i, desk.out(), "07".repeat(lengths[i]));
        }
        LeafWitness x = new LeafWitness();
        House.fill(x, 0, 200);
        Due.is("ENTRY 199 of 200", x.entry(0, 199), 20);
        Due.is("its number's byte", x.out(3), 199);
    }

    private static void noEntry() {
        for (int i : new int[] {-1, 5, 199, 200, Integer.MIN_VALUE, Integer.MAX_VALUE}) {
            Aftermath.all("ENTRY " + i + " of 5", Due.NO_ELEMENT, House.withSevens(3), x -> x.entry(0, i));
        }
        Aftermath.all("ENTRY 1 of 1", Due.NO_ELEMENT, House.withSevens(3), x -> x.entry(1, 1));
        Aftermath.all("ENTRY 200 of 200", Due.NO_ELEMENT, LogEdgesTest::full, x -> x.entry(0, 200));
        Due.raises("ENTRY 0 of none", Due.NO_ELEMENT, () -> new LeafWitness().entry(0, 0));
    }

    private static void leafShown() {
        Desk desk = new Desk();
        House.furnish(desk);
        boolean[] inTree = {true, true, true, false, false};
        for (int i = 0; i < 5; i++) {
            Due.is("whether ENTRY " + i + " is in the TREE", desk.x.leaf(0, i), inTree[i]);
            Due.is("LEAF " + i, desk.out(), Desk.text(Reference.leaf(Desk.hex(Known.ENTRIES[i]))));
        }
        Due.is("where nothing is in the TREE", desk.x.leaf(1, 0), false);
        desk.x.cut(0, 7);
        Due.is("the last behind a cut", desk.x.leaf(0, 4), true);
        LeafWitness x = new LeafWitness();
        House.fill(x, 0, 199);
        x.cut(0, 0);
        x.submit(0);
        Due.is("LEAF 198 of 199", x.leaf(0, 198), true);
        Due.is("LEAF 199 behind them", x.leaf(0, 199), false);
        x.cut(0, 0);
        Due.is("LEAF 199 of 200", x.leaf(0, 199), true);
    }

    private static void noLeaf() {
        for (int i : new int[] {-1, 5, 199, 200, Integer.MIN_VALUE, Integer.MAX_VALUE}) {
            Aftermath.all("LEAF " + i + " of 5", Due.NO_ELEMENT, House.withSevens(3), x -> x.leaf(0, i));
        }
        Aftermath.all("LEAF 200 of 200", Due.NO_ELEMENT, LogEdgesTest::full, x -> x.leaf(0, 200));
        Due.raises("LEAF 0 of none", Due.NO_ELEMENT, () -> new LeafWitness().leaf(0, 0));
    }

    private static String leafOf(String entry) {
        return Desk.text(Reference.leaf(Desk.hex(entry)));
    }

    private static void findNumber() {
        for (int i = 0; i < 3; i++) {
            Aftermath.allButTape("LEAF " + i, String.valueOf(i), House.withTape(leafOf(Known.ENTRIES[i])),
                    x -> x.find(0));
        }
        LeafWitness x = new LeafWitness();
        House.fill(x, 0, 200);
        x.cut(0, 0);
        for (int i : new int[] {0, 127, 128, 199}) {
            x.leaf(0, i);
            x.again();
            Due.is("LEAF " + i + " of 200", x.find(0), i);
        }
    }

    private static void findNone() {
        for (int i = 3; i < 5; i++) {
            Aftermath.allButTape("LEAF " + i + ", which WAITS", "-1", House.withTape(leafOf(Known.ENTRIES[i])),
                    x -> x.find(0));
        }
        Aftermath.allButTape("no LEAF", "-1", House.withTape(Known.SOME), x -> x.find(0));
        Aftermath.allButTape("the ROOT of 3", "-1", House.withTape(Known.ROOTS[3]), x -> x.find(0));
        Aftermath.allButTape("the other LOG's LEAF", "-1", House.withTape(Known.ROOTS[1]), x -> x.find(1));
        Desk desk = new Desk();
        Due.is("of no ENTRIES", desk.tape(Known.ROOTS[1]).x.find(0), -1);
        desk.submit(0, "");
        Due.is("before the first cut", desk.tape(Known.ROOTS[1]).x.find(0), -1);
        desk.x.cut(0, 0);
        Due.is("behind it", desk.tape(Known.ROOTS[1]).x.find(0), 0);
        Due.is("unlike in the last bit", desk.tape(Known.ROOTS[1].substring(0, 63) + "c").x.find(0), -1);
        Due.is("unlike in the first bit", desk.tape("e" + Known.ROOTS[1].substring(1)).x.find(0), -1);
    }

    private static void findNoLeaf() {
        for (int n : new int[] {0, 1, 31, 33, 64, 2200}) {
            Aftermath.allButTape(n + " bytes", Due.NO_ARGUMENT, House.withSevens(n), x -> x.find(0));
        }
        Desk desk = new Desk();
        desk.submit(0, "");
        desk.x.cut(0, 0);
        Due.raises("a LEAF and a byte", Due.NO_ARGUMENT, () -> desk.tape(Known.ROOTS[1] + "00").x.find(0));
        Due.raises("a LEAF but its last byte", Due.NO_ARGUMENT,
                () -> desk.tape(Known.ROOTS[1].substring(0, 62)).x.find(0));
    }
}
