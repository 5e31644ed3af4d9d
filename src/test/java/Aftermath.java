import java.util.LinkedHashMap;
import java.util.Map;

/**
 * What a call leaves behind: OUT, the TAPE's length and first 120 bytes, of each LOG the sizes, KEY, ROOT, first
 * ENTRIES and HEADS and the last that it has room for, and all that the WITNESSES have. Each piece is looked at in an
 * object of its own, for to look at one changes the object, and an object has only 512 calls.
 */
final class Aftermath {
    interface Scene {
        void set(Desk desk);
    }

    interface Call {
        Object run(LeafWitness x);
    }

    private interface Look {
        String at(Desk desk);
    }

    private static final Map<String, Look> LOOKS = looks();

    private Aftermath() {
    }

    /** The call answers or throws what is due, and leaves all as it was. */
    static void all(String what, String due, Scene scene, Call call) {
        sameAs(what, due, scene, call, desk -> { });
    }

    /** The call answers or throws what is due, uses the TAPE up, and leaves all else as it was. */
    static void allButTape(String what, String due, Scene scene, Call call) {
        sameAs(what, due, scene, call, desk -> desk.x.end(0));
    }

    /** The call answers or throws what is due, and leaves all as other calls in its place do. */
    static void sameAs(String what, String due, Scene scene, Call call, Scene instead) {
        Desk first = new Desk();
        scene.set(first);
        Due.is(what, Due.outcome(() -> call.run(first.x)), due);
        for (Map.Entry<String, Look> look : LOOKS.entrySet()) {
            Desk with = new Desk();
            scene.set(with);
            Due.outcome(() -> call.run(with.x));
            Desk without = new Desk();
            scene.set(without);
            instead.set(without);
            Due.is(what + ", then " + look.getKey(), look.getValue().at(with), look.getValue().at(without));
        }
    }

    private static Map<String, Look> looks() {
        Map<String, Look> looks = new LinkedHashMap<>();
        looks.put("OUT", Desk::out);
        looks.put("the TAPE's length", desk -> String.valueOf(tapeLength(desk.x)));
        looks.put("the TAPE's first bytes", Aftermath::tapeBytes);
        for (int log = 0; log < 2; log++) {
            lookAtLog(looks, log);
            for (int witness = 0; witness < 4; witness++) {
                for (int which = 0; which < 3; which++) {
                    lookAtView(looks, witness, log, which);
                }
            }
        }
        return looks;
    }

    private static void lookAtLog(Map<String, Look> looks, int log) {
        for (int what = 0; what < 4; what++) {
            int its = what;
            looks.put("size(" + log + ", " + what + ")", desk -> Due.outcome(() -> desk.x.size(log, its)));
        }
        for (int i : new int[] {0, 1, 2, 3, 4, 5, 199}) {
            looks.put("entry(" + log + ", " + i + ")", desk -> shown(desk, x -> x.entry(log, i)));
            looks.put("leaf(" + log + ", " + i + ")", desk -> shown(desk, x -> x.leaf(log, i)));
        }
        for (int k : new int[] {0, 1, 2, 39}) {
            looks.put("head(" + log + ", " + k + ")", desk -> shown(desk, x -> x.head(log, k)));
        }
        looks.put("the ROOT of LOG " + log, desk -> shown(desk, x -> x.root(log, x.size(log, 1))));
        looks.put("the KEY of LOG " + log, desk -> shown(desk.tape(new byte[48]), x -> x.seal(log)));
    }

    private static void lookAtView(Map<String, Look> looks, int witness, int log, int which) {
        looks.put("has(" + witness + ", " + log + ", " + which + ")",
                desk -> shown(desk, x -> x.has(witness, log, which)));
    }

    private static String shown(Desk desk, Call call) {
        return Due.outcome(() -> call.run(desk.x)) + " " + desk.out();
    }

    /** By a feed, or, where none has room, by the greatest end that is not refused. */
    static int tapeLength(LeafWitness x) {
        int behind = x.feed(0, 0, 0, 0, 0);
        int length = behind - 20;
        for (int n = 2200; behind == LeafWitness.NONE && n > 2180; n--) {
            if (x.end(n)) {
                return n;
            }
        }
        return length;
    }

    /** As many as an ENTRY may have, shown by a LOG that still takes one. */
    private static String tapeBytes(Desk desk) {
        desk.x.end(Math.min(120, tapeLength(desk.x)));
        int log = desk.x.size(1, 0) < 200 ? 1 : 0;
        int number = desk.x.submit(log);
        return shown(desk, x -> x.entry(log, number));
    }
}
