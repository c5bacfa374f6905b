import java.io.IOException;
import java.lang.reflect.Constructor;
import java.lang.reflect.Field;
import java.lang.reflect.Method;
import java.lang.reflect.Modifier;
import java.nio.file.Files;
import java.nio.file.Path;
import java.util.Set;
import java.util.TreeSet;
import java.util.regex.Matcher;
import java.util.regex.Pattern;

/** The face as the document writes it, and those rules of LANGUAGE.md that a simple look at the source can tell. */
public final class FaceTests {
    private static final String[] FACE = {
        "int size(int)",
        "int write(int,int)",
        "int listen(int,boolean)",
        "int forget(int)",
        "int send(int)",
        "int eliminate(int)",
        "int append(int)",
        "int clearBuffer()",
        "int firstError()",
        "int sendAll()",
        "int undo()",
        "int mix(int,int)",
        "int receiver(int,int)",
        "int known(int,int)",
        "int waiting(int,int,int)",
        "int count(int)",
        "int block(int)",
        "int ifGot(int,int,int)",
        "int helps(int,int)",
        "int needs(int,int,boolean)",
        "int ifEliminated(int)",
        "double use(int)",
        "long digest()",
    };
    /** Rules 2, 4, 5, 6 and 13. */
    private static final String[] RULED_OUT = {"::", "finally", "synchronized", "assert ", "static {", "System.out",
        "System.exit", "System.nanoTime", "currentTimeMillis", "Random", "Thread", "Exact(",
        "java.io", "java.nio", "java.net", "java.time"};
    /** Rule 6. */
    private static final Set<String> CAUGHT = Set.of("IllegalStateException", "IllegalArgumentException",
        "IndexOutOfBoundsException", "ArithmeticException", "UnsupportedOperationException", "NoSuchElementException",
        "RuntimeException");

    private static final Path DOCUMENT = Path.of("../shared/DOC.md");

    private final Checks checks = new Checks();

    public static void main(String[] args) throws IOException {
        FaceTests tests = new FaceTests();
        String source = Files.readString(Path.of("src/main/java/MixedBlocks.java"));
        tests.face();
        tests.innerClasses();
        tests.source(source);
        if (Files.exists(DOCUMENT)) {
            tests.documentsFace(source, Files.readString(DOCUMENT));
        }
        tests.checks.end();
    }

    private void face() {
        Class<?> face = MixedBlocks.class;
        checks.due("public final class", face.getModifiers(), Modifier.PUBLIC | Modifier.FINAL);
        Set<String> names = new TreeSet<>();
        Set<String> methods = new TreeSet<>();
        for (Method method : face.getDeclaredMethods()) {
            if (!Modifier.isPrivate(method.getModifiers()) && !method.isSynthetic()) {
                methods.add(written(method));
                names.add(method.getName());
            }
        }
        checks.due("the methods", methods, new TreeSet<>(Set.of(FACE)));
        Set<String> fields = new TreeSet<>();
        for (Field field : face.getDeclaredFields()) {
            if (!Modifier.isPrivate(field.getModifiers())) {
                fields.add(field.getName());
            }
            int unchanged = Modifier.FINAL | Modifier.STATIC;
            boolean changes = (field.getModifiers() & unchanged) == Modifier.STATIC;
            checks.due("a static field that is not final: " + field.getName(), changes, false);
        }
        checks.due("the constants", fields, Set.of("NONE"));
        Constructor<?>[] constructors = face.getDeclaredConstructors();
        checks.due("constructors", constructors.length, 1);
        checks.due("the constructor is public", constructors[0].getModifiers(), Modifier.PUBLIC);
        noPrivateMethodIsNamedSo(face, names);
        for (Class<?> inside : face.getDeclaredClasses()) {
            noPrivateMethodIsNamedSo(inside, names);
        }
    }

    private static String written(Method method) {
        StringBuilder text = new StringBuilder();
        text.append(method.getReturnType().getName()).append(' ').append(method.getName()).append('(');
        String comma = "";
        for (Class<?> type : method.getParameterTypes()) {
            text.append(comma).append(type.getName());
            comma = ",";
        }
        text.append(')');
        return text.toString();
    }

    private void noPrivateMethodIsNamedSo(Class<?> owner, Set<String> names) {
        for (Method method : owner.getDeclaredMethods()) {
            boolean hidden = Modifier.isPrivate(method.getModifiers());
            checks.due("a private method bears the name " + method.getName(),
                hidden && names.contains(method.getName()), false);
        }
    }

    private void innerClasses() {
        Class<?>[] inside = MixedBlocks.class.getDeclaredClasses();
        checks.due("at most some twelve classes", inside.length < 12, true);
        for (Class<?> one : inside) {
            int fields = 0;
            for (Field field : one.getDeclaredFields()) {
                fields += Modifier.isStatic(field.getModifiers()) ? 0 : 1;
            }
            checks.due(one.getName() + " is not public", Modifier.isPublic(one.getModifiers()), false);
            checks.due(one.getName() + " has some twenty fields at most", fields <= 20, true);
        }
    }

    /** Each line of the document's face stands in the source, with its throws clause; how it is wrapped is free. */
    private void documentsFace(String source, String document) {
        String wrapped = source.replaceAll("\\s+", " ");
        Matcher lines = Pattern.compile("(?m)^    (public [^;]*);$").matcher(document);
        int all = 0;
        while (lines.find()) {
            String line = lines.group(1);
            boolean stands = wrapped.contains(line + " {") || wrapped.contains(line + ";");
            checks.due("the source has " + line, stands, true);
            all++;
        }
        checks.due("lines of the document's face", all, FACE.length + 2);
    }

    private void source(String source) {
        String code = source.replaceAll("(?s)/\\*.*?\\*/", "").replaceAll("//[^\n]*", "");
        for (String word : RULED_OUT) {
            checks.due("the source holds " + word, code.contains(word), false);
        }
        checks.due("the source begins with a package", code.strip().startsWith("package "), false);
        for (String line : code.split("\n")) {
            // an arrow of a switch is no lambda
            boolean lambda = line.contains("->") && !line.contains("case ") && !line.contains("default ");
            checks.due("a lambda: " + line.strip(), lambda, false);
        }
        Matcher caught = Pattern.compile("catch *\\( *(\\w+)").matcher(code);
        while (caught.find()) {
            checks.due("caught: " + caught.group(1), CAUGHT.contains(caught.group(1)), true);
        }
        boolean plain = true;
        for (char c : code.toCharArray()) {
            plain &= c >= 1 && c <= 127;
        }
        checks.due("the source is plain", plain, true);
    }
}
