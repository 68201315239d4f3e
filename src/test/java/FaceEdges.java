import java.io.IOException;
import java.lang.reflect.Method;
import java.lang.reflect.Modifier;
import java.nio.file.Files;
import java.nio.file.Path;
import java.util.Arrays;
import java.util.List;
import java.util.regex.Matcher;
import java.util.regex.Pattern;

/** The lines of the public face and the signatures of the promises, against the class as it is compiled. */
final class FaceEdges {
    private static final String FACE = "The public face";
    private static final String CONSTANTS = "NO_SUCH = -1, BAD_VALUE = -2, BAD_TEXT = -3, NOT_POSSIBLE = -5, NONE = -6";
    private static final Class<SpacedPairs> CLASS = SpacedPairs.class;
    private static final Pattern METHOD = Pattern.compile("(?:public )?int (\\w+)\\((.*)\\);?");

    private final Edges e;
    private final String source;

    private FaceEdges(Edges edges) throws IOException {
        e = edges;
        source = Files.readString(Path.of("src/main/java/SpacedPairs.java"));
    }

    static void test(Edges edges) throws IOException {
        FaceEdges t = new FaceEdges(edges);
        t.theClass();
        t.constants();
        t.constructor();
        t.methods();
        t.signatures();
    }

    private void theClass() {
        e.sentence(FACE, "public final class SpacedPairs {");
        e.due("its modifiers", CLASS.getModifiers(), Modifier.PUBLIC | Modifier.FINAL);
        e.dueText("its package", CLASS.getPackageName(), "");
        e.dueText("what it extends", CLASS.getSuperclass().getName(), "java.lang.Object");
        e.due("what it implements", CLASS.getInterfaces().length, 0);
    }

    private void constants() {
        e.sentence(FACE, "public static final int " + CONSTANTS + ";");
        dueConstants();
        e.due("public fields", CLASS.getFields().length, 5);

        e.sentence("Description", "- `" + CONSTANTS + "`: Error codes, and NONE: there is none");
        dueConstants();
        e.due("an error code", new SpacedPairs().problem(6), -2);
        e.due("there is none", new SpacedPairs().fault(), -6);
    }

    private void dueConstants() {
        for (String constant : CONSTANTS.split(", ")) {
            String[] sides = constant.split(" = ");
            e.dueText(sides[0], valueOf(sides[0]), sides[1]);
        }
    }

    private static String valueOf(String constant) {
        try {
            return String.valueOf(CLASS.getField(constant).getInt(null));
        } catch (ReflectiveOperationException | IllegalArgumentException x) {
            return x.toString();
        }
    }

    private void constructor() {
        e.sentence(FACE, "public SpacedPairs();");
        e.due("constructors", CLASS.getDeclaredConstructors().length, 1);
        e.due("public ones", CLASS.getConstructors().length, 1);
        e.due("its parameters", CLASS.getDeclaredConstructors()[0].getParameterCount(), 0);
    }

    private void methods() {
        int methods = 0;
        for (String line : e.sentencesOf(FACE)) {
            if (METHOD.matcher(line).matches()) {
                e.sentence(FACE, line);
                dueMethod(line);
                methods++;
            }
        }
        e.due("methods of the face", methods, 33);
        long declared = Arrays.stream(CLASS.getDeclaredMethods()).filter(m -> !Modifier.isPrivate(m.getModifiers())).count();
        e.due("methods of the class that are not private", (int) declared, methods);
    }

    private void dueMethod(String line) {
        Matcher method = METHOD.matcher(line);
        if (!method.matches()) {
            e.dueText("is it a method?", line, "a method");
            return;
        }
        try {
            Method m = CLASS.getDeclaredMethod(method.group(1), typesOf(method.group(2)));
            e.dueText("what it returns", m.getReturnType().getName(), "int");
            e.due("its modifiers", m.getModifiers(), Modifier.PUBLIC);
            e.due("exceptions that it declares", m.getExceptionTypes().length, 0);
        } catch (NoSuchMethodException x) {
            e.dueText("the method", x.toString(), "there is one");
        }
    }

    private static Class<?>[] typesOf(String parameters) {
        return Pattern.compile(", ").splitAsStream(parameters)
            .filter(parameter -> !parameter.isEmpty())
            .map(parameter -> parameter.startsWith("boolean ") ? boolean.class : int.class)
            .toArray(Class<?>[]::new);
    }

    /** Each promise begins with its signature; the face has it too, and so has the class's text. */
    private void signatures() {
        List<String> face = e.sentencesOf(FACE);
        for (int promise = 1; promise <= 34; promise++) {
            List<String> sentences = e.sentencesOf(Edges.nameOf(promise));
            String quoted = sentences.isEmpty() ? "``" : sentences.get(0);
            String signature = quoted.substring(1, quoted.length() - 1);
            e.sentence(promise, quoted);
            e.dueText("the line " + (promise + 1) + " of the face", face.get(promise + 1), "public " + signature + ";");
            e.due("where the class has it", Math.min(source.indexOf("\n    public " + signature + " {\n"), 0), 0);
            if (promise > 1) {
                dueMethod(signature);
            }
        }

        e.sentence("Description", "The constructor and the methods follow, a promise each: the signature, then what it does");
        e.due("the promise after the last", e.sentencesOf(Edges.nameOf(35)).size(), 0);
        e.due("lines of the face", face.size(), 2 + 34);
        e.promisesNothing("Description", "The constants");
    }
}
