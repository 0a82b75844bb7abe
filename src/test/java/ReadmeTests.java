import java.io.IOException;
import java.lang.reflect.Method;
import java.lang.reflect.Modifier;
import java.nio.file.Files;
import java.nio.file.Path;
import java.util.List;

/** What README.md tells: the rows of its example, in their order, and the names of all calls. */
public final class ReadmeTests extends Checks {
    private static List<String> lines;
    private static int next;

    public static void main(String[] args) throws IOException {
        lines = Files.readAllLines(Path.of("README.md"));
        about = "README.md";
        example();
        refusals();
        names();
        finish();
    }

    private static void example() {
        x = new FrogBreath();
        shown("girl(0)", x.girl(0));
        shown("frog(8, 3)", x.frog(8, 3));
        shown("lends(0, 30)", x.lends(0, 30));
        shown("later(5, 0, 0)", x.later(5, 0, 0));
        shown("backWhen(0)", x.backWhen(0));
        shown("hour()", x.hour());
        shown("of(0, 5)", x.of(0, 5));
        feedAll(x, "h>5?k*2;k+d/2");
        hold("the same text", String.join(" ", lines).contains("\"h>5?k*2;k+d/2\""));
        shown("law()", x.law());
        shown("loses(0)", x.loses(0));
        shown("row(0, 0, 2)", x.row(0, 0, 2));
        shown("put(0, 0, 27)", x.put(0, 0, 27));
        shown("put(0, 1, 20)", x.put(0, 1, 20));
        shown("judge(0, 0)", x.judge(0, 0));
        shown("fits(0, 0, 0)", x.fits(0, 0, 0));
        hold("no row behind these", nextRow() == lines.size());
    }

    private static int nextRow() {
        int at = next;
        while (at < lines.size() && !lines.get(at).contains("// ")) {
            at++;
        }
        return at;
    }

    /** The next row of the example is this call, with this answer. */
    private static void shown(String call, int answer) {
        next = nextRow();
        String row = next < lines.size() ? lines.get(next) : "";
        hold(call + " is the next row: " + row, row.startsWith("marsh." + call + ";"));
        hold(call + " answers " + answer + ": " + row, row.contains("// " + answer + ": "));
        next++;
    }

    private static void refusals() {
        x = new FrogBreath();
        x.feed('b');
        x.feed('+');
        due("-100 less the place of the fault", x.law(), -102);
        due("VOID of mend", x.mend(0, 2, 1), VOID);
        due("VOID of of", x.of(0, 2), VOID);
        due("VOID of later", x.later(1, 0, 0), VOID);
        due("Long.MIN_VALUE of element", x.element(0, 0), Long.MIN_VALUE);
        x.body(0);
        x.act(0, 1, 5);
        due("0 of act", x.act(1, 1, 5), 0);
        due("count(5) then", x.count(5), 0);
    }

    private static void names() {
        String text = String.join(" ", lines);
        for (Method m : FrogBreath.class.getDeclaredMethods()) {
            boolean ofFace = Modifier.isPublic(m.getModifiers());
            hold("names " + m.getName(), !ofFace || text.contains("`" + m.getName() + "`"));
        }
    }
}
