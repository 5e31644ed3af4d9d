import java.io.IOException;
import java.lang.reflect.Field;
import java.lang.reflect.Method;
import java.lang.reflect.Modifier;
import java.nio.file.Files;
import java.nio.file.Path;
import java.util.ArrayList;
import java.util.Arrays;
import java.util.List;
import java.util.Set;
import java.util.TreeSet;
import java.util.regex.Matcher;
import java.util.regex.Pattern;

/** The public face is the document's and no more, and the source keeps to what of LANGUAGE.md can be read off it. */
public final class FaceTest {
    private static final String INDEX = " throws IndexOutOfBoundsException";
    private static final String ARGUMENT = " IllegalArgumentException";
    private static final String STATE = " IllegalStateException";
    private static final String ELEMENT = " NoSuchElementException";
    private static final String[] FACE = {
        "boolean end(int)", "boolean has(int,int,int)" + INDEX + ELEMENT, "boolean isIn(long,long)",
        "boolean isOn(long,long)", "boolean isSealed(int)" + INDEX + ARGUMENT,
        "boolean leaf(int,int)" + INDEX + ELEMENT, "boolean root(int,int)" + INDEX + ELEMENT,
        "boolean seal(int)" + INDEX + ARGUMENT, "int again()",
        "int cut(int,long)" + INDEX + ARGUMENT + STATE, "int entry(int,int)" + INDEX + ELEMENT,
        "int feed(int,int,int,int,int)", "int find(int)" + INDEX + ARGUMENT, "int follow(int,int)" + INDEX + ARGUMENT,
        "int gossip(int,int,int)" + INDEX, "int head(int,int)" + INDEX + ELEMENT,
        "int key(int)" + INDEX + ARGUMENT + STATE, "int out(int)", "int outs()",
        "int proof(int,int,int)" + INDEX + ELEMENT, "int size(int,int)" + INDEX + ELEMENT,
        "int submit(int)" + INDEX + ARGUMENT + STATE, "int way(int,int,int)" + INDEX + ELEMENT
    };
    /** A method as the document writes it: type and name, parameters, exceptions. */
    private static final Pattern METHOD =
            Pattern.compile("    public (\\w+ \\w+)\\(([\\w, ]*)\\)(?: throws ([\\w, ]+))?;");
    /** Words that the language leaves out, each with the rule that says so. */
    private static final String[][] LEFT_OUT = {
        {"->|::", "2: no lambda, no method reference"},
        {"\\b(HashMap|Map|Set|Object|Long\\.valueOf|Optional|Stream|Random|Thread)\\b", "3 and 4: the library"},
        {"Exact\\s*\\(", "4: none whose name ends in Exact"},
        {"\\bstatic\\s*\\{", "5: no static initialiser block"},
        {"\\b(try|catch|finally|synchronized|assert|native|volatile)\\b", "6: exceptions"},
        {"\\b(getMessage|hashCode|toString|getClass|nanoTime|currentTimeMillis)\\b", "6 and 13"},
        {"\\bwhile\\s*\\(|\\bfor\\s*\\(\\s*;\\s*;", "9: every loop has a counter and a bound"},
        {"[^\\x00-\\x7f]", "the source is plain ASCII"}
    };

    private FaceTest() {
    }

    public static void main(String[] args) throws IOException {
        documentsFace();
        publicMembers();
        otherMembers();
        String source = Files.readString(Path.of("src/main/java/LeafWitness.java"));
        String code = withoutCommentsAndTexts(source);
        wordsLeftOut(code);
        imports(source);
        lengths(code);
        Due.done("FaceTest");
    }

    /** The face that the class is compared with is, line by line, the one written in the document. */
    private static void documentsFace() throws IOException {
        Path document = Path.of("../shared/DOC.md");
        if (!Files.exists(document)) {
            System.out.println(document + " is not there: the face is not looked up in it");
            return;
        }
        List<String> methods = new ArrayList<>();
        List<String> others = new ArrayList<>();
        for (String line : Files.readString(document).split("## The public face")[1].split("```")[1].split("\n")) {
            Matcher method = METHOD.matcher(line);
            if (method.matches()) {
                String types = method.group(2).replaceAll(" \\w+(, |$)", ",").replaceAll(",$", "");
                String thrown = method.group(3) == null ? "" : " throws " + method.group(3).replace(",", "");
                methods.add(method.group(1) + "(" + types + ")" + thrown);
            } else if (line.startsWith("    ")) {
                others.add(line.strip());
            }
        }
        methods.sort(null);
        Due.is("the document's methods", methods, Arrays.asList(FACE));
        Due.is("the document's other members", others,
                List.of("public static final int NONE = -1;", "public LeafWitness();"));
    }

    private static String named(Method method) {
        StringBuilder text = new StringBuilder();
        text.append(method.getReturnType().getSimpleName()).append(' ').append(method.getName()).append('(');
        for (Class<?> type : method.getParameterTypes()) {
            text.append(text.charAt(text.length() - 1) == '(' ? "" : ",").append(type.getSimpleName());
        }
        text.append(')');
        for (Class<?> type : method.getExceptionTypes()) {
            text.append(text.indexOf(" throws") < 0 ? " throws " : " ").append(type.getSimpleName());
        }
        return text.toString();
    }

    private static void publicMembers() {
        List<String> methods = new ArrayList<>();
        for (Method method : LeafWitness.class.getDeclaredMethods()) {
            if (!Modifier.isPrivate(method.getModifiers())) {
                methods.add(named(method));
                Due.is(method + " is public", Modifier.isPublic(method.getModifiers()), true);
            }
        }
        methods.sort(null);
        Due.is("the methods", methods, Arrays.asList(FACE));
        Due.is("the constructors", LeafWitness.class.getDeclaredConstructors().length, 1);
        Due.is("the constructor's parameters", LeafWitness.class.getConstructors()[0].getParameterCount(), 0);
        Due.is("NONE", LeafWitness.NONE, -1);
        Due.is("public and final", LeafWitness.class.getModifiers(), Modifier.PUBLIC | Modifier.FINAL);
    }

    private static void otherMembers() {
        for (Field field : LeafWitness.class.getDeclaredFields()) {
            boolean open = !Modifier.isPrivate(field.getModifiers());
            Due.is(field + " is open", open, field.getName().equals("NONE"));
        }
        Set<String> open = new TreeSet<>();
        for (Method method : LeafWitness.class.getDeclaredMethods()) {
            if (Modifier.isPublic(method.getModifiers())) {
                open.add(method.getName());
            }
        }
        Due.is("how many classes are at most 12", LeafWitness.class.getDeclaredClasses().length + 1 <= 12, true);
        for (Class<?> inside : LeafWitness.class.getDeclaredClasses()) {
            Due.is(inside + " is static", Modifier.isStatic(inside.getModifiers()), true);
            Due.is(inside + " is open", Modifier.isPublic(inside.getModifiers()), false);
            Due.is(inside + " has at most 20 fields", inside.getDeclaredFields().length <= 20, true);
            for (Field field : inside.getDeclaredFields()) {
                int kind = field.getModifiers();
                Due.is(field + " is final, if static", !Modifier.isStatic(kind) || Modifier.isFinal(kind), true);
            }
            for (Method method : inside.getDeclaredMethods()) {
                Due.is(method + " bears a public name", open.contains(method.getName()), false);
                Due.is(method + " has at most 7 parameters", method.getParameterCount() <= 7, true);
            }
        }
        for (Method method : LeafWitness.class.getDeclaredMethods()) {
            boolean hidden = Modifier.isPrivate(method.getModifiers());
            Due.is(method + " bears a public name", hidden && open.contains(method.getName()), false);
            Due.is(method + " has at most 7 parameters", method.getParameterCount() <= 7, true);
        }
    }

    private static String withoutCommentsAndTexts(String source) {
        return source.replaceAll("(?s)/\\*.*?\\*/", "").replaceAll("//[^\n]*", "").replaceAll("\"[^\"\n]*\"", "\"\"");
    }

    private static void wordsLeftOut(String code) {
        for (String[] word : LEFT_OUT) {
            Matcher found = Pattern.compile(word[0]).matcher(code);
            Due.is("rule " + word[1], found.find() ? found.group() : "", "");
        }
    }

    private static void imports(String source) {
        Set<String> found = new TreeSet<>();
        for (String line : source.split("\n")) {
            if (line.startsWith("import") || line.startsWith("package")) {
                found.add(line);
            }
        }
        Due.is("imports", found,
                new TreeSet<>(List.of("import java.util.Arrays;", "import java.util.NoSuchElementException;")));
    }

    /** Rule 11: a method has some sixty lines; one begins at a line that ends in ") {" and has no keyword before. */
    private static void lengths(String code) {
        String[] lines = code.split("\n");
        for (int i = 0; i < lines.length; i++) {
            String end = lines[i].replaceAll("\\S.*", "") + "}";
            if (lines[i].matches("\\s+(public|private|static|void|int|long|boolean|byte|Row).*[({,)].*\\{")) {
                int last = i;
                while (last < lines.length - 1 && !lines[last].equals(end)) {
                    last++;
                }
                Due.is("at most 60 lines: " + lines[i].strip(), lines[i].contains(" class ") || last - i < 60, true);
            }
        }
    }
}
