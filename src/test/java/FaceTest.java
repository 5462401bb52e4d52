import java.io.IOException;
import java.lang.reflect.Constructor;
import java.lang.reflect.Field;
import java.lang.reflect.Method;
import java.lang.reflect.Modifier;
import java.nio.file.Files;
import java.nio.file.Paths;
import java.util.ArrayList;
import java.util.Collections;
import java.util.HashSet;
import java.util.List;
import java.util.Set;

/** The face is that of the document, and the source keeps to what of LANGUAGE.md a text shows. */
public final class FaceTest {
    private static final String I = " throws IndexOutOfBoundsException";
    private static final String A = " throws IllegalArgumentException";
    private static final String IA = I + ", IllegalArgumentException";
    private static final String IS = I + ", IllegalStateException";
    private static final String IAS = IA + ", IllegalStateException";
    private static final String AS = A + ", IllegalStateException";

    private static final String[] METHODS = {
        "int feature(int, int, int)" + AS,
        "void move(int, int, int, int)" + IAS,
        "void part(int, int, int)" + IAS,
        "void end(int, int, int)" + IAS,
        "int of(int, int, int, int)" + IA,
        "int name(int, int, long, int)" + IAS,
        "int law(int, int, int, int, int)" + IAS,
        "void except(int, int, int)" + IAS,
        "long form(int, int, int, int)" + IA,
        "int petition(int, int, long, int)" + IAS,
        "int vote(int, int, boolean)" + IS,
        "boolean protest(int, int)" + IS,
        "int decide(int)" + IS,
        "int appeal(int)" + IS,
        "int petitionOf(int, int)" + IA,
        "int census(int, int, int)" + IA,
        "void dispute(int, int, int)" + I,
        "int shown(int, int)" + IA,
        "long display(int, int)" + I,
        "int table(int, int, int)" + IA,
        "long write(long, int)" + IA,
        "long back(long, int)" + IA,
        "int loss(int)" + I,
        "int reading(long, int, int)" + AS,
        "int cost(int, int)" + I,
        "int assign()",
        "int ways()",
        "int find(long, int, int, int)" + IA,
        "int pull(int)" + I,
        "long copy(int, int, int)" + I,
        "int order(int)" + IS,
        "int budget(int)" + A,
        "long sign(int)" + I,
        "int pass(int)" + AS,
    };

    private static final String[][] AHEAD = {{"features", "feature"}, {"names and laws", "name"},
        {"councils", "petition"}, {"shown", "census"}, {"tables", "table"}, {"readings and the search", "reading"},
        {"copies, signs, days", "pull"}};

    private static final String[] FORBIDDEN = {"->", "::", "finally", "synchronized", "assert ", "catch", "double",
        "float", "getClass", "System.out", "Math.random", "Exact(", "volatile", "protected", "package ", "new Thread"};

    public static void main(String[] args) throws IOException {
        methods();
        fieldsAndConstructor();
        classesInside();
        source();
        ahead();
        Check.end("FaceTest");
    }

    private static String face(Method method) {
        StringBuilder face = new StringBuilder();
        face.append(method.getReturnType().getSimpleName()).append(' ').append(method.getName()).append('(');
        for (int i = 0; i < method.getParameterCount(); i++) {
            face.append(i == 0 ? "" : ", ").append(method.getParameterTypes()[i].getSimpleName());
        }
        face.append(')');
        for (int i = 0; i < method.getExceptionTypes().length; i++) {
            face.append(i == 0 ? " throws " : ", ").append(method.getExceptionTypes()[i].getSimpleName());
        }
        return face.toString();
    }

    private static void methods() {
        List<String> want = new ArrayList<>(List.of(METHODS));
        List<String> got = new ArrayList<>();
        for (Method method : NameLand.class.getDeclaredMethods()) {
            if (Modifier.isPublic(method.getModifiers())) {
                got.add(face(method));
                Check.due("static " + method.getName(), Modifier.isStatic(method.getModifiers()), false);
            } else {
                Check.due("private " + method.getName(), Modifier.isPrivate(method.getModifiers()), true);
            }
        }
        Collections.sort(want);
        Collections.sort(got);
        Check.due("the methods of the face", got.toString(), want.toString());
    }

    private static void fieldsAndConstructor() {
        Check.due("public final", Modifier.toString(NameLand.class.getModifiers()), "public final");
        Constructor<?>[] constructors = NameLand.class.getDeclaredConstructors();
        Check.due("one constructor", constructors.length, 1);
        Check.due("a public constructor", Modifier.isPublic(constructors[0].getModifiers()), true);
        Check.due("without arguments", constructors[0].getParameterCount(), 0);
        Check.due("that throws nothing", constructors[0].getExceptionTypes().length, 0);
        for (Field field : NameLand.class.getDeclaredFields()) {
            String name = field.getName();
            boolean isOfFace = name.equals("NONE") || name.equals("STREET");
            Check.due("field " + name, Modifier.isPublic(field.getModifiers()), isOfFace);
            Check.due("field " + name, Modifier.isPrivate(field.getModifiers()), !isOfFace);
            if (Modifier.isStatic(field.getModifiers())) {
                Check.due("static field " + name, Modifier.isFinal(field.getModifiers()), true);
            }
        }
    }

    private static void classesInside() {
        Set<String> face = new HashSet<>();
        for (String method : METHODS) {
            face.add(method.substring(method.indexOf(' ') + 1, method.indexOf('(')));
        }
        Class<?>[] classes = NameLand.class.getDeclaredClasses();
        Check.due("some twelve classes", classes.length + 1 <= 12, true);
        for (Class<?> inside : classes) {
            Check.due("static " + inside, Modifier.isStatic(inside.getModifiers()), true);
            Check.due("private " + inside, Modifier.isPrivate(inside.getModifiers()), true);
            for (Method method : inside.getDeclaredMethods()) {
                Check.due("name of " + method, face.contains(method.getName()), false);
            }
            for (Field field : inside.getDeclaredFields()) {
                boolean isChanging = Modifier.isStatic(field.getModifiers()) && !Modifier.isFinal(field.getModifiers());
                Check.due("state of " + field, isChanging, false);
            }
        }
        for (Method method : NameLand.class.getDeclaredMethods()) {
            boolean isPublic = Modifier.isPublic(method.getModifiers());
            Check.due("name of " + method, face.contains(method.getName()), isPublic);
            Check.due("parameters of " + method, method.getParameterCount() <= 7, true);
        }
    }

    private static void source() throws IOException {
        List<String> lines = Files.readAllLines(Paths.get("src/main/java/NameLand.java"));
        for (int i = 0; i < lines.size(); i++) {
            String line = lines.get(i);
            String at = "line " + (i + 1) + ": ";
            for (String word : FORBIDDEN) {
                Check.due(at + word, line.contains(word), false);
            }
            if (line.startsWith("import")) {
                Check.due(at + "import", line, "import java.util.ArrayList;");
            }
            for (int k = 0; k < line.length(); k++) {
                Check.due(at + "a sign", line.charAt(k) < 127, true);
            }
            Check.due(at + "joins texts by +", line.contains("\" +") || line.contains("+ \""), false);
        }
    }

    /** What the interface says ahead of the first call of each group. */
    private static void ahead() throws IOException {
        String source = Files.readString(Paths.get("src/main/java/NameLand.java"));
        for (String[] group : AHEAD) {
            int says = source.indexOf("    // ---- " + group[0] + "\n");
            int next = source.indexOf("\n    public ", Math.max(says, 0));
            String call = says < 0 ? "nothing" : source.substring(next + 12, source.indexOf('(', next));
            Check.due("the call behind " + group[0], call.substring(call.indexOf(' ') + 1), group[1]);
        }
    }
}
