import java.io.File;
import java.io.IOException;
import java.lang.reflect.Method;
import java.lang.reflect.Modifier;
import java.nio.file.Files;
import java.nio.file.Path;
import java.util.ArrayList;
import java.util.List;

/** README.md says how to use the class and how to run its tests, as they stand. */
public final class ReadmeTest {
    private static final Path README = Path.of("README.md");
    private static final Path TESTS = Path.of("src/test/java");

    private ReadmeTest() {
    }

    public static void main(String[] args) throws IOException {
        String readme = Files.readString(README);
        exampleAnswersWhatItSays();
        exampleIsTheOneHere(readme);
        callsAreNamed(readme);
        testsAreNamed(readme);
        Due.done("ReadmeTest");
    }

    private static void exampleAnswersWhatItSays() {
        // The example begins here.
        LeafWitness x = new LeafWitness();

        x.feed(0x73656372, 0x65740000, 0, 0, 0);
        x.end(6);                            // the TAPE has the six bytes of "secret"
        int keyBytes = x.key(0);             // 6: they are the KEY of LOG 0, and the TAPE is empty

        x.feed(0x68656c6c, 0x6f000000, 0, 0, 0);
        x.end(5);                            // "hello"
        int hello = x.submit(0);             // 0: ENTRY 0 WAITS
        x.feed(0x776f726c, 0x64000000, 0, 0, 0);
        x.end(5);                            // "world"
        int world = x.submit(0);             // 1: so does ENTRY 1
        int older = x.cut(0, 1000L);         // 0: both are in the TREE, and HEAD 0 is of TIME 1000

        x.root(0, 2);
        x.again();                           // the TAPE has the ROOT,
        x.leaf(0, world);
        x.again();                           // the LEAF behind it,
        x.way(0, world, 2);
        x.again();                           // and then the WAY
        boolean in = x.isIn(world, 2);       // true: they fit

        x.head(0, older);
        x.again();
        int first = x.follow(3, 0);          // 0: WITNESS 3 has HEAD 0

        x.feed(0x21000000, 0, 0, 0, 0);
        x.end(1);                            // "!"
        x.submit(0);
        int newer = x.cut(0, 2000L);         // 1: HEAD 1 is over three LEAVES
        x.head(0, newer);
        x.again();                           // the TAPE has the HEAD,
        x.proof(0, 2, 3);
        x.again();                           // and then the PROOF that its TREE goes on from that of two LEAVES
        int second = x.follow(3, 0);         // 0: WITNESS 3 has HEAD 1

        x.feed(0, 3000, 0, 3, 0);
        x.feed(0, 0, 0, 0, 0);
        x.feed(0, 0, 0, 0, 0);
        x.end(48);                           // TIME 3000, SIZE 3, and a ROOT that is not the TREE's
        x.seal(0);                           // OUT is a HEAD of these, with the LOG's SEAL
        x.again();
        int third = x.follow(3, 0);          // 3: a SPLIT
        boolean kept = x.has(3, 0, 2);       // true: OUT is that HEAD, the second of the EVIDENCE
        int bytes = x.outs();                // 80
        // The example ends here.
        Due.is("the example's keyBytes", keyBytes, 6);
        Due.is("the example's ENTRIES", List.of(hello, world), List.of(0, 1));
        Due.is("the example's HEADS", List.of(older, newer), List.of(0, 1));
        Due.is("the example's in", in, true);
        Due.is("the example's follow", List.of(first, second, third), List.of(0, 0, 3));
        Due.is("the example's kept", kept, true);
        Due.is("the example's bytes", bytes, 80);
        entriesAreTheTexts(x);
        evidenceIsTheForgedHead(x);
    }

    private static void entriesAreTheTexts(LeafWitness x) {
        String[] texts = {"hello", "world", "!"};
        for (int i = 0; i < texts.length; i++) {
            x.entry(0, i);
            StringBuilder text = new StringBuilder();
            for (int k = 0; k < x.outs(); k++) {
                text.append((char) x.out(k));
            }
            Due.is("the example's ENTRY " + i, text.toString(), texts[i]);
        }
    }

    private static void evidenceIsTheForgedHead(LeafWitness x) {
        x.has(3, 0, 2);
        Due.is("its TIME and SIZE", List.of(x.out(6), x.out(7), x.out(15)), List.of(3000 >> 8, 3000 & 255, 3));
        Due.is("its ROOT", List.of(x.out(16), x.out(47)), List.of(0, 0));
    }

    private static void exampleIsTheOneHere(String readme) throws IOException {
        String here = Files.readString(TESTS.resolve("ReadmeTest.java"));
        List<String> run = stripped(between(here, "// The example begins here.\n", "// The example ends here."));
        List<String> told = stripped(between(readme, "```java\n", "```"));
        Due.is("README.md's example", told, run);
        Due.is("whether it has lines", told.size() > 1, true);
    }

    private static String between(String text, String from, String to) {
        int start = text.indexOf(from);
        int stop = text.indexOf(to, start + from.length());
        return start < 0 || stop < 0 ? "" : text.substring(start + from.length(), stop);
    }

    private static List<String> stripped(String text) {
        List<String> lines = new ArrayList<>();
        for (String line : text.strip().split("\n")) {
            lines.add(line.strip());
        }
        return lines;
    }

    private static void callsAreNamed(String readme) {
        for (Method method : LeafWitness.class.getDeclaredMethods()) {
            if (Modifier.isPublic(method.getModifiers())) {
                String call = "`" + method.getName() + "(";
                Due.is("whether README.md's table has " + call, readme.contains(call), true);
                Due.is("how many arguments README.md tells of " + call, argumentsTold(readme, call),
                        method.getParameterCount());
            }
        }
    }

    private static int argumentsTold(String readme, String call) {
        String told = between(readme, call, ")`");
        return told.isEmpty() ? 0 : told.split(",").length;
    }

    private static void testsAreNamed(String readme) {
        String[] files = TESTS.toFile().list((File directory, String name) -> name.endsWith("Test.java"));
        Due.is("whether there are tests", files != null && files.length > 0, true);
        for (String file : files == null ? new String[0] : files) {
            String name = "`" + file.replace(".java", "") + "`";
            Due.is("whether README.md names " + name, readme.contains(name), true);
        }
        Due.is("whether README.md tells how to run them", readme.contains("\n    .ci/run\n"), true);
    }
}
