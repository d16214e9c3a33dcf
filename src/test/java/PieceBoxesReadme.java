import java.io.IOException;
import java.lang.reflect.Method;
import java.lang.reflect.Modifier;
import java.nio.file.Files;
import java.nio.file.Path;
import java.util.Arrays;
import java.util.List;
import java.util.Set;
import java.util.TreeSet;
import java.util.regex.Matcher;
import java.util.regex.Pattern;

// Makes every call that README.md shows in its Java blocks, from the first to
// the last, and looks whether the class answers what is shown behind it. Run
// from the folder that README.md is in, as .ci/run does.
public final class PieceBoxesReadme {
    private static final Path README = Path.of("README.md");
    private static final String NEW = "PieceBoxes box = new PieceBoxes();";
    private static final Pattern CALL = Pattern.compile(
            "box\\.(\\w+)\\(([-0-9, ]*)\\);\\s*//\\s*(true|false|NONE|-?\\d+|no answer)\\b.*");

    private static final Set<String> shown = new TreeSet<>();
    private static PieceBoxes box;
    private static int wrong = 0;

    public static void main(String[] args) throws IOException, ReflectiveOperationException {
        if (!Files.exists(README)) {
            fault("README.md is not in the folder that this is run from");
        } else {
            followBlocks(Files.readAllLines(README));
            everyCallIsShown();
        }
        System.out.println(wrong == 0
                ? "all answers are as due" : wrong + " faults in README.md");
        if (wrong != 0) {
            System.exit(1);
        }
    }

    private static void fault(String what) {
        wrong++;
        System.out.println(what);
    }

    private static void followBlocks(List<String> lines) throws ReflectiveOperationException {
        boolean inside = false;
        for (String line : lines) {
            if (line.startsWith("```")) {
                inside = line.equals("```java");
            } else if (inside && !line.isBlank()) {
                follow(line.strip());
            }
        }
    }

    // A line that is not understood is a fault: what it shows would go unseen.
    private static void follow(String line) throws ReflectiveOperationException {
        Matcher call = CALL.matcher(line);
        if (line.startsWith(NEW)) {
            box = new PieceBoxes();
        } else if (!call.matches() || box == null) {
            fault("no call with its answer: " + line);
        } else {
            compare(line, answer(call.group(1), numbers(call.group(2))), call.group(3));
        }
    }

    private static void compare(String line, String got, String want) {
        if (!got.equals(want.equals("NONE") ? "-1" : want)) {
            fault(line + " -- answered " + got);
        }
    }

    private static Object[] numbers(String list) {
        if (list.isBlank()) {
            return new Object[0];
        }
        String[] parts = list.split(",");
        Object[] all = new Object[parts.length];
        for (int n = 0; n < parts.length; n++) {
            all[n] = Integer.valueOf(parts[n].strip());
        }
        return all;
    }

    private static String answer(String name, Object[] numbers)
            throws ReflectiveOperationException {
        Class<?>[] types = new Class<?>[numbers.length];
        Arrays.fill(types, int.class);
        Method method = PieceBoxes.class.getMethod(name, types);
        shown.add(name);
        Object answer = method.invoke(box, numbers);
        return answer == null ? "no answer" : answer.toString();
    }

    private static void everyCallIsShown() {
        for (Method method : PieceBoxes.class.getDeclaredMethods()) {
            boolean open = Modifier.isPublic(method.getModifiers());
            if (open && !shown.contains(method.getName())) {
                fault("README.md does not show " + method.getName());
            }
        }
    }
}
