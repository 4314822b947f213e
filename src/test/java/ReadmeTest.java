import java.io.File;
import java.io.IOException;
import java.lang.reflect.InvocationTargetException;
import java.lang.reflect.Method;
import java.nio.file.Files;
import java.nio.file.Path;
import java.util.TreeSet;
import java.util.regex.Matcher;
import java.util.regex.Pattern;

/** What README.md shows of the class's answers is what the class answers; what it lists is there. */
public final class ReadmeTest {
    private static final Pattern CALL = Pattern.compile("x\\.(\\w+)\\(([^)]*)\\);(?:\\s*// (.*))?");
    private static final Pattern ANSWER = Pattern.compile("(-?\\d+|RANGE|STATE|FULL|NONE|throws ArithmeticException)(?::.*)?");
    private static FollowScore x = null;
    private static final TreeSet<String> called = new TreeSet<>();

    public static void main(String[] args) throws IOException {
        String readme = Files.readString(Path.of("README.md"));
        examples(readme);
        allCallsAreShown();
        classesAreListed(readme);
        testsAreListed(readme);
        room(readme);
        Check.finish();
    }

    private static void examples(String readme) {
        boolean inside = false;
        for (String line : readme.split("\n")) {
            if (line.startsWith("```")) inside = line.equals("```java");
            else if (inside && !line.isBlank()) example(line.trim());
        }
    }

    private static void example(String line) {
        if (line.equals("FollowScore x = new FollowScore();")) {
            x = new FollowScore();
            return;
        }
        Matcher call = CALL.matcher(line);
        boolean read = call.matches();
        Check.isTrue("'" + line + "' is a call", read);
        if (!read) return;
        called.add(call.group(1));
        String told = call.group(3) == null ? "" : call.group(3);
        Matcher answer = ANSWER.matcher(told);
        boolean isVoid = call.group(1).equals("clear");
        Check.isTrue("'" + line + "' tells its answer", isVoid || answer.matches());
        String got = answerOf(call.group(1), call.group(2));
        if (!isVoid && answer.matches()) Check.due("README: " + line, got, plain(answer.group(1)));
    }

    private static String plain(String answer) {
        switch (answer) {
            case "NONE": return String.valueOf(FollowScore.NONE);
            case "RANGE": return String.valueOf(FollowScore.RANGE);
            case "STATE": return String.valueOf(FollowScore.STATE);
            case "FULL": return String.valueOf(FollowScore.FULL);
            default: return answer;
        }
    }

    private static String answerOf(String name, String list) {
        String[] texts = list.isBlank() ? new String[0] : list.split(",\\s*");
        Object[] numbers = new Object[texts.length];
        for (int i = 0; i < texts.length; i++) {
            numbers[i] = Integer.valueOf(plain(texts[i].replace("FollowScore.", "")));
        }
        for (Method method : FollowScore.class.getMethods()) {
            if (method.getName().equals(name) && method.getParameterCount() == numbers.length) return ask(method, numbers);
        }
        return "no such call";
    }

    private static String ask(Method method, Object[] numbers) {
        try {
            return String.valueOf(method.invoke(x, numbers));
        } catch (InvocationTargetException e) {
            return "throws " + e.getCause().getClass().getSimpleName();
        } catch (IllegalAccessException e) {
            return e.toString();
        }
    }

    private static void allCallsAreShown() {
        for (Method method : FollowScore.class.getDeclaredMethods()) {
            if (!java.lang.reflect.Modifier.isPublic(method.getModifiers())) continue;
            Check.isTrue(method.getName() + " is shown in README.md", called.contains(method.getName()));
        }
    }

    private static void classesAreListed(String readme) {
        for (Class<?> inside : FollowScore.class.getDeclaredClasses()) {
            Check.isTrue(inside.getSimpleName() + " is listed in README.md",
                    readme.contains("| `" + inside.getSimpleName() + "` |"));
        }
    }

    private static void testsAreListed(String readme) {
        String[] files = new File("src/test/java").list();
        Check.isTrue("there are tests", files != null && files.length > 0);
        if (files == null) return;
        for (String file : files) {
            String name = file.replace(".java", "");
            Check.isTrue(name + " is named in README.md", readme.contains("`" + name + "`"));
        }
    }

    private static void room(String readme) {
        Matcher told = Pattern.compile("some ([0-9,]+)\\s+fields and elements").matcher(readme);
        boolean found = told.find();
        Check.isTrue("README.md tells how much room an object takes", found);
        if (!found) return;
        int some = Integer.parseInt(told.group(1).replace(",", ""));
        int all = new Room(new FollowScore()).fieldsAndElements();
        Check.isTrue("some " + some + " fields and elements, they are " + all, Math.abs(all - some) <= 500);
    }
}
