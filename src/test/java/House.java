/** Scenes that tests begin with: an object in which a bit of everything is there, and LOGS that are full. */
final class House {
    /** The KEY of LOG 0; LOG 1 has none. */
    static final String KEY = "6b";

    /** What the WITNESSES 0 to 2 have of LOG 0. */
    static final String HEAD_0 = Desk.sealed(KEY, 5, 4, Known.ROOTS[4]);
    static final String HEAD_1 = Desk.sealed(KEY, 6, 4, Known.OTHER);
    static final String HEAD_2 = Desk.sealed(KEY, 6, 8, Known.ROOTS[8]);
    /** The second HEAD of the EVIDENCE that WITNESS 0 has of LOG 0. */
    static final String SPLIT_0 = Desk.sealed(KEY, 9, 4, Known.SOME);
    /** What WITNESS 0 has of LOG 1. */
    static final String EMPTY_HEAD = Desk.sealed("", 2, 0, Known.NO_LEAVES);

    private House() {
    }

    /**
     * LOG 0 has a KEY, the known ENTRIES 0 to 4, of which 3 are in the TREE, and HEADS of TIME 3 and 7; LOG 1 has no
     * KEY, one ENTRY that WAITS and no HEAD. OUT is two bytes, and the TAPE is empty.
     */
    static void furnish(Desk desk) {
        desk.tape(KEY).x.key(0);
        desk.submit(0, Known.ENTRIES[0]);
        desk.x.cut(0, 3);
        desk.submit(0, Known.ENTRIES[1]);
        desk.submit(0, Known.ENTRIES[2]);
        desk.x.cut(0, 7);
        desk.submit(0, Known.ENTRIES[3]);
        desk.submit(0, Known.ENTRIES[4]);
        desk.submit(1, "aa");
        desk.tape(HEAD_0).x.follow(0, 0);
        desk.tape(SPLIT_0).x.follow(0, 0);
        desk.tape(HEAD_1).x.follow(1, 0);
        desk.tape(HEAD_2).x.follow(2, 0);
        desk.tape(EMPTY_HEAD).x.follow(0, 1);
        desk.x.entry(0, 3);
    }

    /** The same, with a TAPE of n bytes, all of them 7. */
    static Aftermath.Scene withSevens(int n) {
        return desk -> {
            furnish(desk);
            desk.sevens(n);
        };
    }

    static Aftermath.Scene withTape(String hex) {
        return desk -> {
            furnish(desk);
            desk.tape(hex);
        };
    }

    /** A LOG gets ENTRIES of 20 bytes, by two calls each: the number, highest byte first, and zeros. */
    static void fill(LeafWitness x, int log, int entries) {
        for (int i = 0; i < entries; i++) {
            x.feed(i, 0, 0, 0, 0);
            x.submit(log);
        }
    }

    /** A LOG gets HEADS of one TIME. */
    static void cut(LeafWitness x, int log, int heads, long time) {
        for (int i = 0; i < heads; i++) {
            x.cut(log, time);
        }
    }
}
