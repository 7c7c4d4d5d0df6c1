import java.io.IOException;
import java.lang.reflect.Constructor;
import java.lang.reflect.Field;
import java.lang.reflect.Method;
import java.lang.reflect.Modifier;
import java.nio.file.Files;
import java.nio.file.Path;
import java.util.ArrayList;
import java.util.Arrays;
import java.util.Collections;
import java.util.HashSet;
import java.util.List;
import java.util.Set;

/** The public face: what the document lists, and nothing besides. */
public final class FaceTest {
    private static final String[] METHODS = {
        "set(int,int)", "person(int,int)", "second(int,int)", "allow(int)", "insult(int,int,int)", "settle(int,int)",
        "fight(int)", "swear(int)", "pass(int)", "of(int,int)", "quarrel(int,int)", "record(int,int)", "pressing(int)",
        "insults(int)", "count(int)", "why(int)", "firstWay(int)", "opensIn(int)", "dueIn(int)",
        "ifInsulted(int,int,int)", "ifFought(int)", "put(long)", "wipe()", "fault()", "carryOut()", "undo()",
        "save(int)", "restore(int)"};
    private static final String[] CONSTANTS = {
        "NO_SUCH=-1", "BAD_VALUE=-2", "BAD_TEXT=-3", "TOO_MANY=-4", "NOT_POSSIBLE=-5", "NONE=-6",
        "COOL=0", "NOTICE=1", "OATH=2", "PEACE=3"};

    private static final Sentences CHECKS = new Sentences("The public face");

    private static String face(Method method) {
        List<String> kinds = new ArrayList<>();
        for (Class<?> kind : method.getParameterTypes()) {
            kinds.add(kind.getSimpleName());
        }
        return method.getName() + "(" + String.join(",", kinds) + ")";
    }

    private static void sameSet(String what, List<String> got, String[] want) {
        Collections.sort(got);
        List<String> sorted = new ArrayList<>(Arrays.asList(want));
        Collections.sort(sorted);
        CHECKS.holds(what + " are " + got + ", due are " + sorted, got.equals(sorted));
    }

    /** Each line of the face stands in the class as the document writes it, and in its order. */
    private static void asTheDocumentWritesIt() throws IOException {
        String document = Files.readString(Path.of("../shared/DOC.md"));
        int from = document.indexOf("```java\n");
        int to = document.indexOf("\n```", Math.max(0, from));
        CHECKS.of("the document's face");
        CHECKS.holds("the document lists a face", from >= 0 && to > from);
        String[] lines = document.substring(from, to).split("\n");
        CHECKS.due("lines", lines.length - 1, METHODS.length + 5);
        String source = Files.readString(Path.of("src/main/java/QuarrelWays.java"));
        int behind = 0;
        for (int line = 1; line < lines.length; line++) {
            CHECKS.of("The public face", lines[line].trim());
            int at = source.indexOf(lines[line].replace(");", ") {") + "\n", behind);
            CHECKS.holds("it stands in the class, in its order", at >= 0);
            behind = Math.max(behind, at);
        }
    }

    public static void main(String[] args) throws IllegalAccessException, IOException {
        asTheDocumentWritesIt();
        CHECKS.of("face");
        Class<?> face = QuarrelWays.class;
        CHECKS.holds("public final class", Modifier.isPublic(face.getModifiers()) && Modifier.isFinal(face.getModifiers()));
        CHECKS.holds("extends nothing", face.getSuperclass() == Object.class && face.getInterfaces().length == 0);

        Constructor<?>[] constructors = face.getDeclaredConstructors();
        CHECKS.due("constructors", constructors.length, 1);
        CHECKS.holds("public constructor", Modifier.isPublic(constructors[0].getModifiers()) && constructors[0].getParameterCount() == 0);

        List<String> methods = new ArrayList<>();
        Set<String> publicNames = new HashSet<>();
        for (Method method : face.getDeclaredMethods()) {
            if (Modifier.isPrivate(method.getModifiers())) {
                continue;
            }
            boolean plain = method.getModifiers() == Modifier.PUBLIC && method.getReturnType() == int.class;
            CHECKS.holds(method + " is public, of an object, and answers an int", plain);
            methods.add(face(method));
            publicNames.add(method.getName());
        }
        sameSet("methods", methods, METHODS);

        List<String> constants = new ArrayList<>();
        for (Field field : face.getDeclaredFields()) {
            if (!Modifier.isPrivate(field.getModifiers())) {
                CHECKS.holds(field + " is a constant", Modifier.isStatic(field.getModifiers()) && Modifier.isFinal(field.getModifiers()));
                constants.add(field.getName() + "=" + field.getInt(null));
            }
        }
        sameSet("constants", constants, CONSTANTS);

        List<Class<?>> all = new ArrayList<>(Arrays.asList(face.getDeclaredClasses()));
        CHECKS.holds("at most twelve classes", all.size() < 12);
        for (Class<?> inside : all) {
            CHECKS.holds(inside + " is static", Modifier.isStatic(inside.getModifiers()));
            CHECKS.holds(inside + " is not public", !Modifier.isPublic(inside.getModifiers()) && !Modifier.isProtected(inside.getModifiers()));
        }
        all.add(face);
        for (Class<?> one : all) {
            for (Method method : one.getDeclaredMethods()) {
                boolean another = one != face || Modifier.isPrivate(method.getModifiers());
                CHECKS.holds(method + " bears no public name", !another || !publicNames.contains(method.getName()));
                CHECKS.holds(method + " takes at most seven parameters", method.getParameterCount() <= 7);
            }
            int fields = 0;
            for (Field field : one.getDeclaredFields()) {
                boolean isStatic = Modifier.isStatic(field.getModifiers());
                CHECKS.holds(field + " is final if static", !isStatic || Modifier.isFinal(field.getModifiers()));
                fields += isStatic ? 0 : 1;
            }
            CHECKS.holds(one + " has at most twenty fields", fields <= 20);
        }
        CHECKS.end();
    }
}
