import java.io.IOException;
import java.lang.reflect.Constructor;
import java.lang.reflect.Field;
import java.lang.reflect.Method;
import java.lang.reflect.Modifier;
import java.nio.file.Files;
import java.nio.file.Path;
import java.util.Set;
import java.util.TreeSet;

/** The face as the document writes it, and those rules of LANGUAGE.md that a simple look at the source can tell. */
public final class FaceTests {
    private static final String[] FACE = {
        "int size(int) IllegalArgumentException",
        "int write(int,int) IndexOutOfBoundsException IllegalArgumentException",
        "int listen(int,boolean) IndexOutOfBoundsException",
        "int forget(int) IndexOutOfBoundsException",
        "int send(int) IllegalArgumentException",
        "int eliminate(int) IndexOutOfBoundsException",
        "int append(int) IllegalArgumentException IllegalStateException",
        "int clearBuffer()",
        "int firstError()",
        "int sendAll() IllegalArgumentException",
        "int undo() IllegalStateException",
        "int mix(int,int) IllegalArgumentException",
        "int receiver(int,int) IndexOutOfBoundsException IllegalArgumentException",
        "int known(int,int) IndexOutOfBoundsException",
        "int waiting(int,int,int) IndexOutOfBoundsException IllegalArgumentException",
        "int count(int) IllegalArgumentException",
        "int block(int) IndexOutOfBoundsException",
        "int ifGot(int,int,int) IndexOutOfBoundsException IllegalArgumentException",
        "int helps(int,int) IndexOutOfBoundsException IllegalArgumentException",
        "int needs(int,int,boolean) IndexOutOfBoundsException IllegalArgumentException",
        "int ifEliminated(int) IndexOutOfBoundsException",
        "double use(int) IndexOutOfBoundsException",
        "long digest()",
    };
    /** Rules 2, 3, 4, 6, 10 and 13. */
    private static final String[] RULED_OUT = {"->", "::", "package ", "import ", "finally", "catch", "synchronized",
        "assert ", "static {", "protected ", "System.out", "System.exit", "nanoTime", "currentTimeMillis", "Random",
        "Thread", "Exact(", "Double.", "hashCode", "toString", "instanceof", "@"};

    private final Checks checks = new Checks();

    public static void main(String[] args) throws IOException {
        FaceTests tests = new FaceTests();
        tests.face();
        tests.innerClasses();
        tests.source(Files.readString(Path.of("src/main/java/MixedBlocks.java")));
        tests.checks.end();
    }

    private void face() {
        Class<?> face = MixedBlocks.class;
        checks.due("public final class", face.getModifiers(), Modifier.PUBLIC | Modifier.FINAL);
        Set<String> names = new TreeSet<>();
        Set<String> methods = new TreeSet<>();
        for (Method method : face.getDeclaredMethods()) {
            if (!Modifier.isPrivate(method.getModifiers()) && !method.isSynthetic()) {
                methods.add(written(method));
                names.add(method.getName());
            }
        }
        checks.due("the methods", methods, new TreeSet<>(Set.of(FACE)));
        Set<String> fields = new TreeSet<>();
        for (Field field : face.getDeclaredFields()) {
            if (!Modifier.isPrivate(field.getModifiers())) {
                fields.add(field.getName());
            }
            int unchanged = Modifier.FINAL | Modifier.STATIC;
            boolean changes = (field.getModifiers() & unchanged) == Modifier.STATIC;
            checks.due("a static field that is not final: " + field.getName(), changes, false);
        }
        checks.due("the constants", fields, Set.of("NONE"));
        Constructor<?>[] constructors = face.getDeclaredConstructors();
        checks.due("constructors", constructors.length, 1);
        checks.due("the constructor is public", constructors[0].getModifiers(), Modifier.PUBLIC);
        noPrivateMethodIsNamedSo(face, names);
        for (Class<?> inside : face.getDeclaredClasses()) {
            noPrivateMethodIsNamedSo(inside, names);
        }
    }

    private static String written(Method method) {
        StringBuilder text = new StringBuilder();
        text.append(method.getReturnType().getName()).append(' ').append(method.getName()).append('(');
        String comma = "";
        for (Class<?> type : method.getParameterTypes()) {
            text.append(comma).append(type.getName());
            comma = ",";
        }
        text.append(')');
        for (Class<?> type : method.getExceptionTypes()) {
            text.append(' ').append(type.getSimpleName());
        }
        return text.toString();
    }

    private void noPrivateMethodIsNamedSo(Class<?> owner, Set<String> names) {
        for (Method method : owner.getDeclaredMethods()) {
            boolean inFace = owner == MixedBlocks.class && Modifier.isPublic(method.getModifiers());
            checks.due("a private method bears the name " + method.getName(),
                !inFace && names.contains(method.getName()), false);
        }
    }

    private void innerClasses() {
        Class<?>[] inside = MixedBlocks.class.getDeclaredClasses();
        checks.due("at most some twelve classes", inside.length < 12, true);
        for (Class<?> one : inside) {
            checks.due(one.getName() + " is static", Modifier.isStatic(one.getModifiers()), true);
            checks.due(one.getName() + " is not public", Modifier.isPublic(one.getModifiers()), false);
            checks.due(one.getName() + " has some twenty fields at most", one.getDeclaredFields().length <= 20, true);
        }
    }

    private void source(String source) {
        String code = source.replaceAll("(?s)/\\*.*?\\*/", "").replaceAll("//[^\n]*", "");
        for (String word : RULED_OUT) {
            checks.due("the source holds " + word, code.contains(word), false);
        }
        boolean written = true;
        for (char c : source.toCharArray()) {
            written &= c == '\n' || c >= 32 && c < 127;
        }
        checks.due("the source is plain", written, true);
    }
}
