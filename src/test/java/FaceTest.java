import java.io.IOException;
import java.lang.reflect.Constructor;
import java.lang.reflect.Field;
import java.lang.reflect.Method;
import java.lang.reflect.Modifier;
import java.nio.file.Files;
import java.nio.file.Path;
import java.util.TreeSet;

/** The public face is the document's, and nothing else can be seen from outside. */
public final class FaceTest {
    private static final String[] METHODS = {
        "void clear()", "int note(int,int)", "int way(int,int)", "int loop(int,int)", "int cost(int,int)",
        "int span(int)", "int hear(int,int)", "int cut(int)", "int valueOf(int)", "int tempo(int)",
        "long ahead(int)", "int align()", "int step(int,int)", "int steps()", "int matched(int)",
        "int grade(int,int)", "int mean(int) throws ArithmeticException", "int end()", "int due(int)",
        "int of(int,int)", "int told(int)",
    };
    private static final Path DOCUMENT = Path.of("..", "shared", "DOC.md");

    public static void main(String[] args) throws IOException {
        Check.isTrue("the class is public", Modifier.isPublic(FollowScore.class.getModifiers()));
        Check.isTrue("the class is final", Modifier.isFinal(FollowScore.class.getModifiers()));
        constants();
        constructors();
        methods();
        classesInside();
        faceOfTheDocument();
        Check.finish();
    }

    private static void constants() {
        Check.due("NONE", FollowScore.NONE, -1);
        Check.due("RANGE", FollowScore.RANGE, -2);
        Check.due("STATE", FollowScore.STATE, -3);
        Check.due("FULL", FollowScore.FULL, -4);
        TreeSet<String> seen = new TreeSet<>();
        for (Field field : FollowScore.class.getDeclaredFields()) {
            if (!Modifier.isPrivate(field.getModifiers())) seen.add(field.getName());
            if (Modifier.isStatic(field.getModifiers())) {
                Check.isTrue(field.getName() + " is final", Modifier.isFinal(field.getModifiers()));
            }
        }
        Check.due("fields seen", seen.toString(), "[FULL, NONE, RANGE, STATE]");
    }

    private static void constructors() {
        Constructor<?>[] all = FollowScore.class.getDeclaredConstructors();
        Check.due("constructors", all.length, 1);
        Check.isTrue("it is public", Modifier.isPublic(all[0].getModifiers()));
        Check.due("its parameters", all[0].getParameterCount(), 0);
    }

    private static void methods() {
        TreeSet<String> want = new TreeSet<>();
        TreeSet<String> names = new TreeSet<>();
        for (String method : METHODS) {
            want.add(method);
            names.add(method.substring(method.indexOf(' ') + 1, method.indexOf('(')));
        }
        TreeSet<String> seen = new TreeSet<>();
        for (Method method : FollowScore.class.getDeclaredMethods()) {
            if (Modifier.isPrivate(method.getModifiers())) {
                Check.isTrue(method.getName() + " is no public name", !names.contains(method.getName()));
            } else {
                Check.isTrue(method.getName() + " is public", Modifier.isPublic(method.getModifiers()));
                Check.isTrue(method.getName() + " is no static one", !Modifier.isStatic(method.getModifiers()));
                seen.add(told(method));
            }
        }
        Check.due("methods seen", seen.toString(), want.toString());
    }

    private static String told(Method method) {
        StringBuilder text = new StringBuilder();
        StringBuilder thrown = new StringBuilder();
        for (Class<?> type : method.getParameterTypes()) {
            if (text.length() > 0) text.append(',');
            text.append(type.getName());
        }
        for (Class<?> type : method.getExceptionTypes()) thrown.append(" throws ").append(type.getSimpleName());
        return method.getReturnType().getName() + " " + method.getName() + "(" + text + ")" + thrown;
    }

    private static void classesInside() {
        for (Class<?> inside : FollowScore.class.getDeclaredClasses()) {
            Check.isTrue(inside.getName() + " is static", Modifier.isStatic(inside.getModifiers()));
            Check.isTrue(inside.getName() + " is not seen", Modifier.isPrivate(inside.getModifiers()));
        }
    }

    /** The lists above are the document's own. */
    private static void faceOfTheDocument() throws IOException {
        if (!Files.exists(DOCUMENT)) {
            System.out.println("no " + DOCUMENT + ": the face is not looked up");
            return;
        }
        String document = Files.readString(DOCUMENT);
        int from = document.indexOf("```java");
        String face = document.substring(from, document.indexOf("}", from));
        TreeSet<String> told = new TreeSet<>();
        for (String line : face.split("\n")) {
            if (!line.contains("(") || line.contains("FollowScore(")) continue;
            told.add(line.trim().replace("public ", "").replace(";", "").replaceAll("int (\\w+)([,)])", "int$2")
                    .replace(", ", ","));
        }
        Check.due("the document's methods", told.toString(), new TreeSet<>(java.util.List.of(METHODS)).toString());
        Check.isTrue("the class", face.contains("public final class FollowScore {"));
        Check.isTrue("the constructor", face.contains("public FollowScore();"));
        Check.isTrue("the constants",
                face.contains("public static final int NONE = -1, RANGE = -2, STATE = -3, FULL = -4;"));
    }
}
