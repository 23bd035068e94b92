import java.io.IOException;
import java.lang.reflect.Constructor;
import java.lang.reflect.Field;
import java.lang.reflect.Method;
import java.lang.reflect.Modifier;
import java.nio.file.Files;
import java.nio.file.Path;
import java.util.Set;
import java.util.TreeSet;
import java.util.regex.Matcher;
import java.util.regex.Pattern;

/** The face of the class is that of the document, and its text keeps off what LANGUAGE.md rules out. */
public final class FaceTest {
    private static final Set<String> METHODS = Set.of(
            "int make(int,int,int)", "int deep(int,int,int,int,int)", "int share(int,int)",
            "int aside(int,int)", "int drop(int)", "int kind(int)", "int length(int,int)",
            "long read(int,int,int)", "int write(int,int,int,long)", "int thing(int,int,int,int)",
            "int marked(int,int)", "long cell(int,int,int,int)", "int set(int,int,int,int,long)",
            "long deepest(int,int,int,int)", "int row(int,int,int,int)", "int take(int,int,int,int)",
            "int grow(int,int)", "int copy(int,int,int,int,int)", "int fill(int,int,long)",
            "int size(int)", "int alike(int,int)", "int trouble(int,int)", "int raise(int,int)",
            "int passed()", "int number()", "int fault()", "int clear()", "int told(int)");
    private static final Set<String> CONSTANTS = Set.of("NONE", "OUTSIDE", "FULL");
    private static final Pattern RULED_OUT = Pattern.compile(
            "\\b(throw|throws|try|catch|synchronized|assert|import|package|protected|Object|System\\.(?!arraycopy)\\w+)\\b"
                    + "|->|::|\\b\\w+Exact\\b|\\[\\]\\s*\\[\\]");

    private static int wrong = 0;

    public static void main(String[] args) throws IOException {
        checkMembers();
        checkText(Files.readString(Path.of("src/main/java/PlanCopies.java")));
        System.out.println(wrong == 0 ? "the face is as told" : wrong + " things are not as told");
        if (wrong != 0) {
            System.exit(1);
        }
    }

    private static void tell(String what) {
        wrong++;
        System.out.println(what);
    }

    private static void checkMembers() {
        Set<String> missing = new TreeSet<>(METHODS);
        Set<String> publicNames = new TreeSet<>();
        for (Method method : PlanCopies.class.getDeclaredMethods()) {
            if (!Modifier.isPrivate(method.getModifiers())) {
                publicNames.add(method.getName());
                String face = face(method);
                if (method.getModifiers() != Modifier.PUBLIC || !missing.remove(face)) {
                    tell("not of the face: " + face);
                }
            }
        }
        missing.forEach(face -> tell("missing: " + face));
        for (Method method : PlanCopies.class.getDeclaredMethods()) {
            if (Modifier.isPrivate(method.getModifiers()) && publicNames.contains(method.getName())) {
                tell("a private method with a public one's name: " + method.getName());
            }
        }
        for (Field field : PlanCopies.class.getDeclaredFields()) {
            boolean open = !Modifier.isPrivate(field.getModifiers());
            if (open != CONSTANTS.contains(field.getName())) {
                tell("not as told: " + field);
            }
        }
        Constructor<?>[] constructors = PlanCopies.class.getDeclaredConstructors();
        if (constructors.length != 1 || constructors[0].getModifiers() != Modifier.PUBLIC
                || constructors[0].getParameterCount() != 0) {
            tell("the constructor is not as told");
        }
        if (PlanCopies.class.getModifiers() != (Modifier.PUBLIC | Modifier.FINAL)) {
            tell("the class is not public and final");
        }
        if (PlanCopies.NONE != -1 || PlanCopies.OUTSIDE != -2 || PlanCopies.FULL != -3) {
            tell("a constant is not as told");
        }
    }

    private static String face(Method method) {
        StringBuilder face = new StringBuilder();
        face.append(method.getReturnType()).append(' ').append(method.getName()).append('(');
        String comma = "";
        for (Class<?> parameter : method.getParameterTypes()) {
            face.append(comma).append(parameter);
            comma = ",";
        }
        return face.append(')').toString();
    }

    private static void checkText(String text) {
        String bare = text.replaceAll("(?s)/\\*.*?\\*/", "").replaceAll("//[^\n]*", "");
        Matcher found = RULED_OUT.matcher(bare);
        while (found.find()) {
            tell("ruled out: " + found.group());
        }
    }
}
