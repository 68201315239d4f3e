import java.lang.reflect.Constructor;
import java.lang.reflect.Field;
import java.lang.reflect.Method;
import java.lang.reflect.Modifier;
import java.util.Set;
import java.util.TreeSet;

/** The face is the document's, whole, and nothing else of the class can be seen from outside. */
public final class FaceTest {
    private static final String[] METHODS = {
        "set(int,int,int)", "langford(int,int,boolean)", "near(int,int,boolean)", "pin(int,int)", "problem(int)",
        "startSum()", "slack()", "starts(int)", "count()", "at(int,int)", "start(int,int)", "frequency(int,int)",
        "options(int)", "forced()", "say(int)", "wipe()", "fault()", "judge(int)", "rank()", "match(int)",
        "spell(int)", "letter(int)", "reversed(int)", "classes()", "distance(int,int)", "neighbour(int,int)",
        "steps(int,int)", "triple(int,int,int)", "cover(int)", "hooks()", "omissions()", "save(int)", "restore(int)"
    };
    private static final String[] CONSTANTS = {"NO_SUCH=-1", "BAD_VALUE=-2", "BAD_TEXT=-3", "NOT_POSSIBLE=-5", "NONE=-6"};

    public static void main(String[] args) throws IllegalAccessException {
        Checks checks = new Checks();
        Class<?> face = SpacedPairs.class;
        checks.due("the class is final", Modifier.isFinal(face.getModifiers()) ? 1 : 0, 1);

        Set<String> methods = new TreeSet<>();
        Set<String> publicNames = new TreeSet<>();
        for (Method m : face.getDeclaredMethods()) {
            if (!Modifier.isPrivate(m.getModifiers())) {
                methods.add(signature(m));
                publicNames.add(m.getName());
                checks.dueText("what " + m.getName() + " returns", m.getReturnType().getName(), "int");
                checks.due(m.getName() + " is public, not static", m.getModifiers(), Modifier.PUBLIC);
            }
        }
        checks.dueText("the methods", methods.toString(), new TreeSet<>(Set.of(METHODS)).toString());

        Set<String> constants = new TreeSet<>();
        for (Field f : face.getDeclaredFields()) {
            if (!Modifier.isPrivate(f.getModifiers())) {
                checks.due(f.getName() + " is a public constant", f.getModifiers(),
                    Modifier.PUBLIC | Modifier.STATIC | Modifier.FINAL);
                constants.add(f.getName() + "=" + f.get(null));
            }
        }
        checks.dueText("the constants", constants.toString(), new TreeSet<>(Set.of(CONSTANTS)).toString());

        Constructor<?>[] constructors = face.getDeclaredConstructors();
        checks.due("constructors", constructors.length, 1);
        checks.due("the constructor's modifiers", constructors[0].getModifiers(), Modifier.PUBLIC);
        checks.due("its parameters", constructors[0].getParameterCount(), 0);

        inside(checks, face, publicNames);
        checks.finish();
    }

    private static void inside(Checks checks, Class<?> face, Set<String> publicNames) {
        for (Method m : face.getDeclaredMethods()) {
            if (Modifier.isPrivate(m.getModifiers())) {
                checks.due("a private " + m.getName(), publicNames.contains(m.getName()) ? 1 : 0, 0);
            }
        }
        for (Class<?> inner : face.getDeclaredClasses()) {
            checks.due(inner.getName() + " is static", Modifier.isStatic(inner.getModifiers()) ? 1 : 0, 1);
            checks.due(inner.getName() + " is public", Modifier.isPublic(inner.getModifiers()) ? 1 : 0, 0);
            for (Method m : inner.getDeclaredMethods()) {
                checks.due(inner.getName() + "." + m.getName() + " bears a public name",
                    publicNames.contains(m.getName()) ? 1 : 0, 0);
            }
        }
    }

    private static String signature(Method m) {
        StringBuilder text = new StringBuilder(m.getName()).append('(');
        String comma = "";
        for (Class<?> type : m.getParameterTypes()) {
            text.append(comma).append(type.getName());
            comma = ",";
        }
        return text.append(')').toString();
    }
}
