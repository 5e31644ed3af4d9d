/** The lines behind the terms, which hold for all calls, and how many calls an object is used for. */
public final class LinesEdgesTest {
    private static final String LINES = "Behind the terms";
    private static final String IN = Known.SOME + Known.SOME;
    private static final String TOLD = Desk.text(Reference.numbers(9, 9)) + Known.SOME;
    private static final String SEALED = Desk.sealed(House.KEY, 9, 9, Known.SOME);

    private LinesEdgesTest() {
    }

    public static void main(String[] args) {
        Sentences all = new Sentences("What it is", LINES);
        all.hold("What it is", "An object is used for at most 512 calls after it has been made",
                LinesEdgesTest::call512);
        all.hold("What it is", "what later calls answer is free", LinesEdgesTest::laterCallsEnd);
        all.hold(LINES, "\"Uses the TAPE up\": it is empty behind the call, whatever comes of it",
                LinesEdgesTest::tapeUsedUp);
        all.hold(LINES, "OUT is what the latest call that sets it left", LinesEdgesTest::outOfTheLatest);
        all.hold(LINES, "(a call that throws leaves it)", LinesEdgesTest::outBehindThrows);
        all.hold(LINES, "Of several exceptions the one told first is thrown", LinesEdgesTest::firstTold);
        all.hold(LINES, "All else a call that throws or is refused leaves as it was", LinesEdgesTest::allElse);
        all.done("LinesEdgesTest");
    }

    private static void call512() {
        LeafWitness x = new LeafWitness();
        int calls = 0;
        for (int i = 0; i < 200; i++) {
            Due.is("call " + ++calls, x.feed(i, 0, 0, 0, 0), 20);
            Due.is("call " + ++calls, x.submit(0), i);
        }
        for (int k = 0; k < 40; k++) {
            Due.is("call " + ++calls, x.cut(0, k), k);
        }
        while (calls < 510) {
            Due.is("call " + ++calls, x.end(0), true);
        }
        Due.is("call " + ++calls, x.head(0, 39), 200);
        Due.is("call " + ++calls, x.out(7), 39);
        Due.is("calls", calls, 512);
    }

    /** They answer what they like, but rule 7 lets none throw what the document does not name. */
    private static void laterCallsEnd() {
        Desk desk = new Desk();
        House.fill(desk.x, 0, 200);
        House.fill(desk.x, 1, 200);
        for (int i = 0; i < 300; i++) {
            int number = i;
            String[] got = {
                Due.outcome(() -> desk.x.feed(number, 1, 1, 1, 1)), Due.outcome(() -> desk.x.submit(number & 1)),
                Due.outcome(() -> desk.x.cut(number & 1, number)), Due.outcome(() -> desk.x.proof(0, number, 200)),
                Due.outcome(() -> desk.x.again()), Due.outcome(() -> desk.x.isOn(number, 200)),
                Due.outcome(() -> desk.x.follow(number & 3, 0)), Due.outcome(() -> desk.x.out(number)),
                Due.outcome(() -> desk.x.gossip(0, number & 3, 1)), Due.outcome(() -> desk.x.has(0, 1, number & 3))
            };
            String[] named = {
                "", Due.NO_STATE, Due.NO_STATE, Due.NO_ELEMENT, "", "", Due.NO_ARGUMENT, "", "", Due.NO_ELEMENT
            };
            for (int call = 0; call < got.length; call++) {
                boolean right = !got[call].startsWith("throws.") || got[call].equals(named[call]);
                Due.is("whether call " + call + " ends as the document lets it", right, true);
            }
        }
    }

    /** The TAPE of a house is this, the call answers or throws what is due, and the TAPE is empty behind it. */
    private static void usesUp(String tape, String due, Aftermath.Call call) {
        Desk desk = new Desk();
        House.furnish(desk);
        desk.tape(tape);
        Due.is("the call", Due.outcome(() -> call.run(desk.x)), due);
        Due.is("the TAPE's length behind what was " + due, Aftermath.tapeLength(desk.x), 0);
    }

    private static void leavesTape(String due, Aftermath.Call call) {
        Desk desk = new Desk();
        House.furnish(desk);
        desk.tape("0102030405");
        Due.is("the call", Due.outcome(() -> call.run(desk.x)), due);
        Due.is("the TAPE's length behind what was " + due, Aftermath.tapeLength(desk.x), 5);
    }

    private static void tapeUsedUp() {
        String tooLong = "07".repeat(121);
        usesUp("6b", "1", x -> x.key(1));
        usesUp("6b", Due.NO_INDEX, x -> x.key(2));
        usesUp(tooLong, Due.NO_ARGUMENT, x -> x.key(1));
        usesUp("6b", Due.NO_STATE, x -> x.key(0));
        usesUp("6b", "5", x -> x.submit(0));
        usesUp(Known.ENTRIES[2], "2", x -> x.submit(0));
        usesUp("6b", Due.NO_INDEX, x -> x.submit(-1));
        usesUp(tooLong, Due.NO_ARGUMENT, x -> x.submit(0));
        usesUp(Known.ROOTS[1], "0", x -> x.find(0));
        usesUp(Known.SOME, "-1", x -> x.find(0));
        usesUp(Known.SOME, Due.NO_INDEX, x -> x.find(2));
        usesUp(tooLong, Due.NO_ARGUMENT, x -> x.find(0));
        usesUp(IN, "true", x -> x.isIn(0, 1));
        usesUp(IN, "false", x -> x.isIn(1, 1));
        usesUp(tooLong, "false", x -> x.isIn(0, 1));
        usesUp(IN, "true", x -> x.isOn(1, 1));
        usesUp(IN, "false", x -> x.isOn(0, 0));
        usesUp(tooLong, "false", x -> x.isOn(1, 1));
        usesUp(SEALED, "true", x -> x.isSealed(0));
        usesUp(SEALED, "false", x -> x.isSealed(1));
        usesUp(SEALED, Due.NO_INDEX, x -> x.isSealed(2));
        usesUp(tooLong, Due.NO_ARGUMENT, x -> x.isSealed(0));
        usesUp(TOLD, "true", x -> x.seal(0));
        usesUp(TOLD, Due.NO_INDEX, x -> x.seal(2));
        usesUp(tooLong, Due.NO_ARGUMENT, x -> x.seal(0));
        usesUp(SEALED, "0", x -> x.follow(3, 0));
        usesUp(SEALED, "1", x -> x.follow(3, 1));
        usesUp(SEALED, Due.NO_INDEX, x -> x.follow(4, 0));
        usesUp(tooLong, Due.NO_ARGUMENT, x -> x.follow(3, 0));
        fullLogUsesUp();
        tapeNotUsedUp();
    }

    private static void fullLogUsesUp() {
        LeafWitness x = new LeafWitness();
        House.fill(x, 0, 200);
        x.feed(200, 0, 0, 0, 0);
        Due.raises("a full LOG", Due.NO_STATE, () -> x.submit(0));
        Due.is("the TAPE's length behind it", Aftermath.tapeLength(x), 0);
    }

    private static void tapeNotUsedUp() {
        leavesTape("false", x -> x.end(6));
        leavesTape("32", x -> x.out(0));
        leavesTape("2", x -> x.outs());
        leavesTape("2", x -> x.cut(0, 7));
        leavesTape(Due.NO_ARGUMENT, x -> x.cut(0, 6));
        leavesTape("5", x -> x.size(0, 0));
        leavesTape("3", x -> x.head(0, 1));
        leavesTape(Due.NO_ELEMENT, x -> x.head(0, 2));
        leavesTape("0", x -> x.entry(0, 0));
        leavesTape("true", x -> x.leaf(0, 0));
        leavesTape("true", x -> x.root(0, 0));
        leavesTape("1", x -> x.way(0, 2, 3));
        leavesTape("0", x -> x.proof(0, 3, 3));
        leavesTape("3", x -> x.gossip(0, 1, 0));
        leavesTape("true", x -> x.has(0, 0, 0));
    }

    private static void outIs(String tape, Aftermath.Call call, String due) {
        Desk desk = new Desk();
        House.furnish(desk);
        desk.tape(tape);
        String answer = Due.outcome(() -> call.run(desk.x));
        Due.is("OUT behind what was " + answer, desk.out(), due);
    }

    private static void outOfTheLatest() {
        outIs("", x -> x.head(0, 1), Desk.sealed(House.KEY, 7, 3, Known.ROOTS[3]));
        outIs("", x -> x.entry(0, 0), "");
        outIs("", x -> x.entry(0, 4), Known.ENTRIES[4]);
        outIs("", x -> x.leaf(0, 1), Known.LEAF_1);
        outIs("", x -> x.root(0, 2), Known.ROOTS[2]);
        outIs("", x -> x.way(0, 0, 1), "");
        outIs("", x -> x.way(0, 2, 3), Known.ROOTS[2]);
        outIs("", x -> x.proof(0, 3, 3), "");
        outIs("", x -> x.proof(0, 1, 2), Known.LEAF_1);
        outIs(TOLD, x -> x.seal(0), SEALED);
        outIs("", x -> x.has(1, 0, 0), House.HEAD_1);
        outStays();
    }

    /** Calls that do not set OUT, whatever they answer. */
    private static void outStays() {
        String before = Known.ENTRIES[3];
        outIs("", x -> x.feed(1, 2, 3, 4, 5), before);
        outIs("0102", x -> x.end(1), before);
        outIs("0102", x -> x.again(), before);
        outIs("0102", x -> x.out(0), before);
        outIs("0102", x -> x.outs(), before);
        outIs("0102", x -> x.key(1), before);
        outIs("0102", x -> x.submit(1), before);
        outIs("", x -> x.cut(0, 8), before);
        outIs("", x -> x.size(0, 1), before);
        outIs(Known.ROOTS[1], x -> x.find(0), before);
        outIs(IN, x -> x.isIn(0, 1), before);
        outIs(IN, x -> x.isOn(1, 1), before);
        outIs(SEALED, x -> x.isSealed(0), before);
        outIs(SEALED, x -> x.follow(3, 0), before);
        outIs(House.SPLIT_0, x -> x.follow(1, 0), before);
        outIs("", x -> x.gossip(0, 1, 0), before);
    }

    private static void outBehindThrows() {
        String before = Known.ENTRIES[3];
        outIs("", x -> x.head(2, 0), before);
        outIs("", x -> x.head(0, 2), before);
        outIs("", x -> x.entry(2, 0), before);
        outIs("", x -> x.entry(0, 5), before);
        outIs("", x -> x.leaf(2, 0), before);
        outIs("", x -> x.leaf(0, 5), before);
        outIs("", x -> x.root(2, 0), before);
        outIs("", x -> x.root(0, 4), before);
        outIs("", x -> x.way(2, 0, 1), before);
        outIs("", x -> x.way(0, 3, 3), before);
        outIs("", x -> x.proof(2, 1, 1), before);
        outIs("", x -> x.proof(0, 0, 3), before);
        outIs(TOLD, x -> x.seal(2), before);
        outIs(TOLD + "00", x -> x.seal(0), before);
        outIs("", x -> x.has(4, 0, 0), before);
        outIs("", x -> x.has(3, 0, 0), before);
        outIs("", x -> x.has(0, 0, 3), before);
    }

    private static void firstTold() {
        Aftermath.Scene long121 = House.withSevens(121);
        Aftermath.allButTape("key: no LOG, 121 bytes", Due.NO_INDEX, long121, x -> x.key(2));
        Aftermath.allButTape("key: 121 bytes, a HEAD", Due.NO_ARGUMENT, long121, x -> x.key(0));
        Aftermath.allButTape("submit: no LOG, 121 bytes", Due.NO_INDEX, long121, x -> x.submit(2));
        Aftermath.allButTape("submit: 121 bytes, 200 ENTRIES", Due.NO_ARGUMENT, desk -> {
            House.fill(desk.x, 0, 200);
            desk.sevens(121);
        }, x -> x.submit(0));
        Aftermath.all("cut: no LOG, below 0", Due.NO_INDEX, long121, x -> x.cut(2, -1));
        Aftermath.Scene heads = desk -> House.cut(desk.x, 0, 40, 3);
        Aftermath.all("cut: below 0, 40 HEADS", Due.NO_ARGUMENT, heads, x -> x.cut(0, -1));
        Aftermath.all("cut: below the latest, 40 HEADS", Due.NO_ARGUMENT, heads, x -> x.cut(0, 2));
        Aftermath.all("size: no LOG, no what", Due.NO_INDEX, long121, x -> x.size(2, 4));
        Aftermath.all("head: no LOG, no HEAD", Due.NO_INDEX, long121, x -> x.head(2, -1));
        Aftermath.all("entry: no LOG, no ENTRY", Due.NO_INDEX, long121, x -> x.entry(2, -1));
        Aftermath.all("leaf: no LOG, no ENTRY", Due.NO_INDEX, long121, x -> x.leaf(2, -1));
        Aftermath.allButTape("find: no LOG, 121 bytes", Due.NO_INDEX, long121, x -> x.find(2));
        Aftermath.all("root: no LOG, no n", Due.NO_INDEX, long121, x -> x.root(2, -1));
        Aftermath.all("way: no LOG, no i and n", Due.NO_INDEX, long121, x -> x.way(2, 1, 0));
        Aftermath.all("proof: no LOG, no m and n", Due.NO_INDEX, long121, x -> x.proof(2, 1, 0));
        Aftermath.allButTape("isSealed: no LOG, 121 bytes", Due.NO_INDEX, long121, x -> x.isSealed(2));
        Aftermath.allButTape("seal: no LOG, 121 bytes", Due.NO_INDEX, long121, x -> x.seal(2));
        Aftermath.allButTape("follow: no WITNESS, 121 bytes", Due.NO_INDEX, long121, x -> x.follow(4, 0));
        Aftermath.allButTape("follow: no LOG, 121 bytes", Due.NO_INDEX, long121, x -> x.follow(0, 2));
        Aftermath.all("has: no WITNESS, no which", Due.NO_INDEX, long121, x -> x.has(4, 0, 3));
        Aftermath.all("has: no LOG, no which", Due.NO_INDEX, long121, x -> x.has(0, 2, 3));
    }

    /** Several calls that throw or are refused, one behind the other, are as none. */
    private static void allElse() {
        Aftermath.all("refused calls that leave the TAPE", "done", House.withSevens(2199), x -> {
            Due.is("feed", x.feed(1, 1, 1, 1, 1), -1);
            Due.is("again", x.again(), -1);
            Due.is("end", x.end(2200), false);
            Due.raises("cut", Due.NO_ARGUMENT, () -> x.cut(0, 6));
            Due.raises("head", Due.NO_ELEMENT, () -> x.head(0, 2));
            Due.raises("root", Due.NO_ELEMENT, () -> x.root(0, 4));
            Due.raises("way", Due.NO_ELEMENT, () -> x.way(0, 3, 3));
            Due.raises("proof", Due.NO_ELEMENT, () -> x.proof(0, 1, 4));
            Due.raises("has", Due.NO_ELEMENT, () -> x.has(1, 0, 1));
            Due.is("gossip", x.gossip(0, 3, 0), 0);
            return "done";
        });
        Aftermath.allButTape("refused calls that use it up", "done", House::furnish, x -> {
            Due.raises("key", Due.NO_STATE, () -> x.key(0));
            x.feed(0x10000000, 0, 0, 0, 0);
            x.end(1);
            Due.is("submit", x.submit(0), 2);
            Due.raises("find", Due.NO_ARGUMENT, () -> x.find(0));
            Due.raises("isSealed", Due.NO_ARGUMENT, () -> x.isSealed(0));
            Due.raises("seal", Due.NO_ARGUMENT, () -> x.seal(0));
            Due.raises("follow", Due.NO_ARGUMENT, () -> x.follow(0, 0));
            Due.is("isIn", x.isIn(0, 1), false);
            Due.is("isOn", x.isOn(1, 1), false);
            return "done";
        });
    }
}
