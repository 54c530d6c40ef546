import java.io.IOException;
import java.lang.reflect.InvocationTargetException;
import java.lang.reflect.Method;
import java.lang.reflect.Modifier;
import java.nio.file.Files;
import java.nio.file.Path;
import java.util.Set;
import java.util.TreeSet;
import java.util.regex.Matcher;
import java.util.regex.Pattern;

/**
 * Makes the calls that README.md shows and compares what they answer with what stands there behind
 * them, so that the page stays true; each call of the face must stand there at least once.
 */
public final class KeyTurnerReadme {
    private static final Pattern CALL = Pattern.compile("turner\\.(\\w+)\\(([^)]*)\\);\\s*// ([-\\w]+)(:.*)?");
    private static final String NEW = "KeyTurner turner = new KeyTurner();";
    private static int wrong = 0;
    private static int played = 0;

    public static void main(String[] args) throws IOException {
        Set<String> shown = new TreeSet<>();
        KeyTurner turner = null;
        boolean inCode = false;
        for (String line : Files.readAllLines(Path.of("README.md"))) {
            if (line.startsWith("```")) {
                inCode = line.equals("```java");
                turner = null;
            } else if (inCode && line.equals(NEW)) {
                turner = new KeyTurner();
            } else if (inCode) {
                play(turner, line, shown);
            }
        }
        for (Method method : KeyTurner.class.getDeclaredMethods()) {
            if (Modifier.isPublic(method.getModifiers()) && !shown.contains(method.getName())) {
                fault("README.md shows no call of " + method.getName());
            }
        }
        System.out.println(wrong == 0 ? "README.md is right in its " + played + " calls" : wrong + " faults");
        if (wrong != 0) {
            System.exit(1);
        }
    }

    private static void fault(String text) {
        wrong++;
        System.out.println(text);
    }

    private static void play(KeyTurner turner, String line, Set<String> shown) {
        Matcher call = CALL.matcher(line);
        if (turner == null || !call.matches()) {
            fault("README.md has a line that can't be played: " + line);
            return;
        }
        played++;
        shown.add(call.group(1));
        String answer = answer(turner, call.group(1), call.group(2).split(", "));
        String due = call.group(3).equals("NONE") ? "-1" : call.group(3);
        if (!answer.equals(due)) {
            fault(line + " answered " + answer);
        }
    }

    private static String answer(KeyTurner turner, String name, String[] texts) {
        for (Method method : KeyTurner.class.getDeclaredMethods()) {
            if (!Modifier.isPublic(method.getModifiers()) || !method.getName().equals(name)
                || method.getParameterCount() != texts.length) {
                continue;
            }
            Object[] values = new Object[texts.length];
            for (int i = 0; i < values.length; i++) {
                values[i] = method.getParameterTypes()[i] == boolean.class
                    ? (Object) Boolean.valueOf(texts[i]) : (Object) number(texts[i]);
            }
            try {
                return String.valueOf(method.invoke(turner, values));
            } catch (InvocationTargetException e) {
                return e.getCause().getClass().getSimpleName();
            } catch (IllegalAccessException e) {
                return e.toString();
            }
        }
        return "no such call";
    }

    private static Integer number(String text) {
        return text.startsWith("0b") ? Integer.valueOf(text.substring(2), 2) : Integer.valueOf(text);
    }
}
