import java.io.IOException;
import java.lang.reflect.InvocationTargetException;
import java.lang.reflect.Method;
import java.lang.reflect.Modifier;
import java.nio.file.Files;
import java.nio.file.Path;
import java.util.ArrayList;
import java.util.HashMap;
import java.util.HashSet;
import java.util.List;
import java.util.Map;
import java.util.Set;
import java.util.regex.Matcher;
import java.util.regex.Pattern;

/** Makes the calls that README.md shows, and compares each answer with the one that stands behind it there. */
public final class HoldBookReadme {
    private static final Pattern MAKING =
            Pattern.compile("HoldBook book = new HoldBook\\((-?\\d+), (-?\\d+)\\);\\s+// \\S.*");
    private static final Pattern CALL =
            Pattern.compile("(?:(?:int|long) (\\w+) = )?book\\.(\\w+)\\((.*?)\\);\\s+// ((?:throws )?[-\\w]+): \\S.*");
    private static final Pattern CONSTANT = Pattern.compile("\\| `([A-Z]+)` \\| (\\S+) \\| \\S.* \\|");

    private static int wrong = 0;

    private final Map<String, String> numbers = new HashMap<>();
    private final Set<String> shown = new HashSet<>();
    private HoldBook book = null;

    public static void main(String[] args) throws IOException, IllegalAccessException {
        List<String> readme = Files.readAllLines(Path.of("README.md"));
        new HoldBookReadme().makeCalls(linesOfJava(readme));
        compareConstants(readme);
        if (wrong > 0) {
            System.out.println(wrong + " of what README.md says is wrong");
            System.exit(1);
        }
        System.out.println("README.md is right");
    }

    private static void fault(String text) {
        wrong++;
        System.out.println("README.md: " + text);
    }

    private static List<String> linesOfJava(List<String> readme) {
        List<String> lines = new ArrayList<>();
        boolean inside = false;
        for (String line : readme) {
            if (line.startsWith("```")) {
                inside = line.equals("```java");
            } else if (inside && !line.isBlank()) {
                lines.add(line);
            }
        }
        return lines;
    }

    private void makeCalls(List<String> lines) throws IllegalAccessException {
        for (String line : lines) {
            makeCall(line);
        }
        for (Method method : HoldBook.class.getDeclaredMethods()) {
            if (Modifier.isPublic(method.getModifiers()) && !shown.contains(method.getName())) {
                fault("no call of " + method.getName() + " is shown");
            }
        }
    }

    private void makeCall(String line) throws IllegalAccessException {
        Matcher making = MAKING.matcher(line);
        Matcher call = CALL.matcher(line);
        if (making.matches()) {
            book = new HoldBook(Integer.parseInt(making.group(1)), Integer.parseInt(making.group(2)));
        } else if (call.matches() && book != null) {
            String answer = answerOf(call.group(2), call.group(3));
            if (call.group(1) != null) {
                numbers.put(call.group(1), answer);
            }
            if (!answer.equals(valueOf(call.group(4)))) {
                fault(line.strip() + " .. but it answers " + answer);
            }
        } else {
            fault("this line can't be tested: " + line);
        }
    }

    private String answerOf(String name, String arguments) throws IllegalAccessException {
        Method method = methodOf(name);
        if (method == null) {
            return "no method " + name;
        }
        shown.add(name);
        String[] words = arguments.isEmpty() ? new String[0] : arguments.split(", ");
        Class<?>[] types = method.getParameterTypes();
        if (words.length != types.length) {
            return "not as many arguments as " + name + " takes";
        }
        Object[] values = new Object[words.length];
        for (int i = 0; i < words.length; i++) {
            values[i] = argumentOf(types[i], numbers.getOrDefault(words[i], words[i]));
        }
        try {
            return String.valueOf(method.invoke(book, values));
        } catch (InvocationTargetException thrown) {
            return "throws " + thrown.getCause().getClass().getSimpleName();
        }
    }

    private static Method methodOf(String name) {
        for (Method method : HoldBook.class.getDeclaredMethods()) {
            if (Modifier.isPublic(method.getModifiers()) && method.getName().equals(name)) {
                return method;
            }
        }
        return null;
    }

    private static Object argumentOf(Class<?> type, String word) {
        if (type == boolean.class) {
            return Boolean.valueOf(word);
        }
        if (type == int.class) {
            return Integer.valueOf(word);
        }
        return Long.valueOf(word);
    }

    /** What README.md writes as a constant's name stands for that constant's value. */
    private static String valueOf(String word) throws IllegalAccessException {
        try {
            return String.valueOf(HoldBook.class.getField(word).getInt(null));
        } catch (NoSuchFieldException none) {
            return word;
        }
    }

    private static void compareConstants(List<String> readme) throws IllegalAccessException {
        int told = 0;
        for (String line : readme) {
            Matcher row = CONSTANT.matcher(line);
            if (row.matches()) {
                told++;
                if (!row.group(2).equals(valueOf(row.group(1)))) {
                    fault(row.group(1) + " is told as " + row.group(2) + ", but is " + valueOf(row.group(1)));
                }
            }
        }
        if (told != HoldBook.class.getFields().length) {
            fault(told + " constants are told of " + HoldBook.class.getFields().length);
        }
    }
}
