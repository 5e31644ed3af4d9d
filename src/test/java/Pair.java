import java.util.Arrays;
import java.util.Random;

/** A LeafWitness and a Model that get the same calls; every answer, exception and piece of OUT is compared. */
final class Pair {
    private final LeafWitness subject = new LeafWitness();
    final Model model = new Model();
    private final String name;
    private final Random random;
    private final StringBuilder story = new StringBuilder();
    private int calls = 0;

    Pair(String name, Random random) {
        this.name = name;
        this.random = random;
    }

    /** An object is used for at most 512 calls, so that is where a run ends. */
    boolean roomFor(int more) {
        return calls + more <= 512;
    }

    private String both(String what, Due.Answer ofSubject, Due.Answer ofModel) {
        calls++;
        String want = Due.outcome(ofModel);
        story.append(what).append(" = ").append(want).append("; ");
        Due.is(name + ": " + story, Due.outcome(ofSubject), want);
        return want;
    }

    /** After a call that may set OUT: its length and some of its bytes. */
    private void lookAtOut() {
        both("outs()", subject::outs, model::outs);
        int length = model.outs();
        for (int i : new int[] {random.nextInt(length + 2) - 1, length - 1}) {
            both("out(" + i + ")", () -> subject.out(i), () -> model.out(i));
        }
    }

    void feed(int a, int b, int c, int d, int e) {
        both("feed(" + a + ", " + b + ", " + c + ", " + d + ", " + e + ")",
                () -> subject.feed(a, b, c, d, e), () -> model.feed(a, b, c, d, e));
    }

    /** Brings bytes behind the TAPE, by whole feeds and an end. */
    void bring(byte[] bytes) {
        int had = model.tape.length;
        for (int at = 0; at < bytes.length; at += 20) {
            java.nio.ByteBuffer five = java.nio.ByteBuffer.wrap(Arrays.copyOfRange(bytes, at, at + 20));
            feed(five.getInt(), five.getInt(), five.getInt(), five.getInt(), five.getInt());
        }
        if (bytes.length % 20 != 0) {
            end(had + bytes.length);
        }
    }

    static int callsToBring(int bytes) {
        return (bytes + 19) / 20 + 1;
    }

    void end(int n) {
        both("end(" + n + ")", () -> subject.end(n), () -> model.end(n));
    }

    void again() {
        both("again()", subject::again, model::again);
    }

    void key(int log) {
        both("key(" + log + ")", () -> subject.key(log), () -> model.key(log));
    }

    void submit(int log) {
        both("submit(" + log + ")", () -> subject.submit(log), () -> model.submit(log));
    }

    void cut(int log, long time) {
        both("cut(" + log + ", " + time + ")", () -> subject.cut(log, time), () -> model.cut(log, time));
    }

    void size(int log, int what) {
        both("size(" + log + ", " + what + ")", () -> subject.size(log, what), () -> model.size(log, what));
    }

    void head(int log, int k) {
        both("head(" + log + ", " + k + ")", () -> subject.head(log, k), () -> model.head(log, k));
        lookAtOut();
    }

    void entry(int log, int i) {
        both("entry(" + log + ", " + i + ")", () -> subject.entry(log, i), () -> model.entry(log, i));
        lookAtOut();
    }

    void leaf(int log, int i) {
        both("leaf(" + log + ", " + i + ")", () -> subject.leaf(log, i), () -> model.leaf(log, i));
        lookAtOut();
    }

    void find(int log) {
        both("find(" + log + ")", () -> subject.find(log), () -> model.find(log));
    }

    void root(int log, int n) {
        both("root(" + log + ", " + n + ")", () -> subject.root(log, n), () -> model.root(log, n));
        lookAtOut();
    }

    void way(int log, int i, int n) {
        both("way(" + log + ", " + i + ", " + n + ")", () -> subject.way(log, i, n), () -> model.way(log, i, n));
        lookAtOut();
    }

    void proof(int log, int m, int n) {
        both("proof(" + log + ", " + m + ", " + n + ")", () -> subject.proof(log, m, n),
                () -> model.proof(log, m, n));
        lookAtOut();
    }

    boolean isIn(long i, long n) {
        return both("isIn(" + i + ", " + n + ")", () -> subject.isIn(i, n), () -> model.isIn(i, n)).equals("true");
    }

    boolean isOn(long m, long n) {
        return both("isOn(" + m + ", " + n + ")", () -> subject.isOn(m, n), () -> model.isOn(m, n)).equals("true");
    }

    void isSealed(int log) {
        both("isSealed(" + log + ")", () -> subject.isSealed(log), () -> model.isSealed(log));
    }

    void seal(int log) {
        both("seal(" + log + ")", () -> subject.seal(log), () -> model.seal(log));
        lookAtOut();
    }

    String follow(int witness, int log) {
        String verdict = both("follow(" + witness + ", " + log + ")", () -> subject.follow(witness, log),
                () -> model.follow(witness, log));
        lookAtOut();
        return verdict;
    }

    String gossip(int witness, int other, int log) {
        return both("gossip(" + witness + ", " + other + ", " + log + ")",
                () -> subject.gossip(witness, other, log), () -> model.gossip(witness, other, log));
    }

    void has(int witness, int log, int which) {
        both("has(" + witness + ", " + log + ", " + which + ")", () -> subject.has(witness, log, which),
                () -> model.has(witness, log, which));
        lookAtOut();
    }
}
