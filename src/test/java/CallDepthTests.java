import java.io.IOException;
import java.nio.file.Files;
import java.nio.file.Path;
import java.util.ArrayList;
import java.util.HashMap;
import java.util.List;
import java.util.Map;
import java.util.regex.Matcher;
import java.util.regex.Pattern;

/** Rule 11 of LANGUAGE.md: calls that are no recursion go at most eight deep, a call of the face being the first. */
public final class CallDepthTests {
    private static final int DEEPEST = 8;
    private static final String OUTER = "FrogBreath", REED = "Reed";
    private static final Pattern CLASS = Pattern.compile(" *(?:\\w+ )*class (\\w+)(?: extends (\\w+))? \\{");
    private static final Pattern METHOD =
            Pattern.compile("( {4}| {8})(?:(?:public|private|static|final) )*[\\w\\[\\]]+ (\\w+)\\(.*\\) \\{");
    private static final Pattern CALL = Pattern.compile("(super\\.|[\\w\\]]\\.)?\\b([a-z]\\w*)\\(");

    // "Class.method" and the lines of its body; a class and the one above it, the outer one last of all
    private static final Map<String, List<String>> bodies = new HashMap<>();
    private static final Map<String, String> above = new HashMap<>();
    private static List<String> deepest = List.of();

    public static void main(String[] args) throws IOException {
        readSource(Files.readAllLines(Path.of("src/main/java/FrogBreath.java")));
        int calls = 0;
        for (String method : bodies.keySet()) {
            if (method.startsWith(OUTER + ".")) {
                calls++;
                for (String kind : above.keySet()) {
                    if (isReed(kind)) {
                        follow(method, kind, new ArrayList<>());
                    }
                }
            }
        }
        boolean found = calls >= 41 && above.size() == 12 && deepest.size() > 5;
        boolean so = found && deepest.size() <= DEEPEST;
        System.out.println((so ? "at most " : "WRONG: ") + deepest.size() + " deep: " + deepest);
        if (!so) {
            System.exit(1);
        }
    }

    private static void readSource(List<String> lines) {
        String inside = OUTER;
        String method = "";
        String end = "";
        for (String line : lines) {
            Matcher header = CLASS.matcher(line);
            Matcher begun = METHOD.matcher(line);
            if (header.matches()) {
                inside = header.group(1);
                above.put(inside, header.group(2) == null ? OUTER : header.group(2));
            } else if (method.isEmpty() && begun.matches()) {
                method = inside + "." + begun.group(2);
                end = begun.group(1) + "}";
                bodies.put(method, new ArrayList<>());
            } else if (line.equals(end)) {
                method = "";
            } else if (!method.isEmpty()) {
                bodies.get(method).add(line.replaceFirst("//.*", ""));
            }
        }
    }

    private static boolean isReed(String kind) {
        return kind.equals(REED) || !kind.equals(OUTER) && isReed(above.get(kind));
    }

    /** Follows the calls of a method as they go when every reed is of this kind; open are those that stand open. */
    private static void follow(String method, String kind, List<String> open) {
        if (open.contains(method)) {
            return;
        }
        open.add(method);
        if (open.size() > deepest.size()) {
            deepest = new ArrayList<>(open);
        }
        String inside = method.substring(0, method.indexOf('.'));
        for (String line : bodies.get(method)) {
            Matcher call = CALL.matcher(line);
            while (call.find()) {
                for (String called : calledBy(inside, call.group(1), call.group(2), kind)) {
                    follow(called, kind, open);
                }
            }
        }
        open.remove(open.size() - 1);
    }

    private static List<String> calledBy(String inside, String of, String name, String kind) {
        List<String> called = new ArrayList<>();
        if (of == null) {
            addNearest(called, isReed(inside) ? kind : inside, name);
        } else if (of.equals("super.")) {
            addNearest(called, above.get(inside), name);
        } else if (bodies.containsKey(REED + "." + name)) {
            addNearest(called, kind, name);
        } else {
            // which object it is isn't read: all classes that have such a method
            for (String method : bodies.keySet()) {
                if (method.endsWith("." + name) && !method.startsWith(OUTER)) {
                    called.add(method);
                }
            }
        }
        return called;
    }

    /** The method of this class, or of the next above that has one. */
    private static void addNearest(List<String> called, String inside, String name) {
        String at = inside;
        while (!bodies.containsKey(at + "." + name) && !at.equals(OUTER)) {
            at = above.get(at);
        }
        if (bodies.containsKey(at + "." + name)) {
            called.add(at + "." + name);
        }
    }
}
