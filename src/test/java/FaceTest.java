import java.lang.reflect.Constructor;
import java.lang.reflect.Field;
import java.lang.reflect.Method;
import java.lang.reflect.Modifier;
import java.util.TreeSet;

/** The public face is the document's, and nothing else can be seen from outside. */
public final class FaceTest {
    private static final String[] METHODS = {
        "void clear()", "int note(int,int)", "int way(int,int)", "int loop(int,int)", "int cost(int,int)",
        "int span(int)", "int hear(int,int)", "int cut(int)", "int valueOf(int)", "int tempo(int)",
        "long ahead(int)", "int align()", "int step(int,int)", "int steps()", "int matched(int)",
        "int grade(int,int)", "int mean(int)", "int end()", "int due(int)", "int of(int,int)", "int told(int)",
    };

    public static void main(String[] args) {
        Check.isTrue("the class is public", Modifier.isPublic(FollowScore.class.getModifiers()));
        Check.isTrue("the class is final", Modifier.isFinal(FollowScore.class.getModifiers()));
        constants();
        constructors();
        methods();
        Check.finish();
    }

    private static void constants() {
        Check.due("NONE", FollowScore.NONE, -1);
        Check.due("RANGE", FollowScore.RANGE, -2);
        Check.due("STATE", FollowScore.STATE, -3);
        Check.due("FULL", FollowScore.FULL, -4);
        TreeSet<String> seen = new TreeSet<>();
        for (Field field : FollowScore.class.getDeclaredFields()) {
            if (!Modifier.isPrivate(field.getModifiers())) seen.add(field.getName());
            if (Modifier.isStatic(field.getModifiers())) {
                Check.isTrue(field.getName() + " is final", Modifier.isFinal(field.getModifiers()));
            }
        }
        Check.due("fields seen", seen.toString(), "[FULL, NONE, RANGE, STATE]");
    }

    private static void constructors() {
        Constructor<?>[] all = FollowScore.class.getDeclaredConstructors();
        Check.due("constructors", all.length, 1);
        Check.isTrue("it is public", Modifier.isPublic(all[0].getModifiers()));
        Check.due("its parameters", all[0].getParameterCount(), 0);
    }

    private static void methods() {
        TreeSet<String> want = new TreeSet<>();
        TreeSet<String> names = new TreeSet<>();
        for (String method : METHODS) {
            want.add(method);
            names.add(method.substring(method.indexOf(' ') + 1, method.indexOf('(')));
        }
        TreeSet<String> seen = new TreeSet<>();
        for (Method method : FollowScore.class.getDeclaredMethods()) {
            if (Modifier.isPrivate(method.getModifiers())) {
                Check.isTrue(method.getName() + " is no public name", !names.contains(method.getName()));
            } else {
                Check.isTrue(method.getName() + " is public", Modifier.isPublic(method.getModifiers()));
                Check.isTrue(method.getName() + " is no static one", !Modifier.isStatic(method.getModifiers()));
                seen.add(told(method));
            }
        }
        Check.due("methods seen", seen.toString(), want.toString());
    }

    private static String told(Method method) {
        StringBuilder text = new StringBuilder();
        for (Class<?> type : method.getParameterTypes()) {
            if (text.length() > 0) text.append(',');
            text.append(type.getName());
        }
        return method.getReturnType().getName() + " " + method.getName() + "(" + text + ")";
    }
}
