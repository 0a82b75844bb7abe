import java.io.IOException;
import java.lang.reflect.Constructor;
import java.lang.reflect.Field;
import java.lang.reflect.Method;
import java.lang.reflect.Modifier;
import java.nio.file.Files;
import java.nio.file.Path;
import java.util.ArrayList;
import java.util.List;
import java.util.Set;
import java.util.TreeSet;

/** The face of the class as the document has it, and what reflection and the source show of LANGUAGE.md's rules. */
public final class LanguageTests {
    private static final Path SOURCE = Path.of("src/main/java/FrogBreath.java");
    private static final Path DOCUMENT = Path.of("../shared/DOC.md");
    private static final int CLASSES = 12, FIELDS = 20, PARAMETERS = 7, LINES = 60;
    private static int wrong;

    private static void hold(boolean so, String what) {
        if (!so) {
            wrong++;
            System.out.println(what);
        }
    }

    public static void main(String[] args) throws IOException {
        List<Class<?>> classes = new ArrayList<>();
        classes.add(FrogBreath.class);
        for (Class<?> inside : FrogBreath.class.getDeclaredClasses()) {
            classes.add(inside);
        }
        face();
        hold(classes.size() <= CLASSES, "rule 11: classes: " + classes.size());
        for (Class<?> c : classes) {
            members(c);
        }
        source(Files.readAllLines(SOURCE));
        System.out.println(wrong == 0 ? "face and language hold" : wrong + " faults");
        if (wrong != 0) {
            System.exit(1);
        }
    }

    private static void face() throws IOException {
        Set<String> told = new TreeSet<>();
        for (String line : Files.readAllLines(DOCUMENT)) {
            String text = line.trim();
            if (text.startsWith("public int ") || text.startsWith("public long ")) {
                told.add(text.replaceAll("(int|long) \\w+([,)])", "$1$2").replace(";", ""));
            }
        }
        hold(told.size() == 41, "the document tells " + told.size() + " calls");
        Set<String> there = new TreeSet<>();
        for (Method m : FrogBreath.class.getDeclaredMethods()) {
            if (Modifier.isPublic(m.getModifiers())) {
                there.add(m.toString().replace("FrogBreath.", "").replace(",", ", "));
            } else {
                hold(Modifier.isPrivate(m.getModifiers()), "rule 1: neither public nor private: " + m);
            }
        }
        hold(told.equals(there), "rule 1: the face is " + there + ", told is " + told);
        Constructor<?>[] all = FrogBreath.class.getDeclaredConstructors();
        hold(all.length == 1 && Modifier.isPublic(all[0].getModifiers()), "rule 1: the constructor");
        hold(Modifier.isFinal(FrogBreath.class.getModifiers()), "rule 1: final");
        Set<String> constants = new TreeSet<>();
        for (Field f : FrogBreath.class.getDeclaredFields()) {
            if (!Modifier.isPrivate(f.getModifiers())) {
                constants.add(f.getName());
            }
        }
        hold(constants.equals(Set.of("BAD", "NOT", "FULL", "STATE", "VOID")), "rule 1: constants " + constants);
        hold(FrogBreath.BAD == -1 && FrogBreath.NOT == -2 && FrogBreath.FULL == -3 && FrogBreath.STATE == -5
                && FrogBreath.VOID == -2000000000, "a constant is not as told");
    }

    private static void members(Class<?> c) {
        Set<String> face = new TreeSet<>();
        for (Method m : FrogBreath.class.getDeclaredMethods()) {
            if (Modifier.isPublic(m.getModifiers())) {
                face.add(m.getName());
            }
        }
        for (Method m : c.getDeclaredMethods()) {
            hold(m.getParameterCount() <= PARAMETERS, "rule 11: parameters of " + m);
            boolean ofFace = c == FrogBreath.class && Modifier.isPublic(m.getModifiers());
            hold(ofFace || !face.contains(m.getName()), "rule 1: the name of a public one: " + m);
            hold(!m.isSynthetic(), "synthetic: " + m);
        }
        int fields = 0;
        for (Field f : c.getDeclaredFields()) {
            boolean fixed = Modifier.isStatic(f.getModifiers());
            hold(!fixed || Modifier.isFinal(f.getModifiers()), "rule 5: " + f);
            fields += fixed ? 0 : 1;
        }
        hold(fields <= FIELDS, "rule 11: fields of " + c);
        boolean inside = c != FrogBreath.class;
        hold(!inside || Modifier.isStatic(c.getModifiers()), "rule 1: not static: " + c);
    }

    private static void source(List<String> lines) {
        String[] none = {"throw", "try", "catch", "finally", "->", "::", "@", "synchronized", "assert", "String", "\"",
            "Object", "static {", "System.out", "java.lang", "Math.random", "nanoTime", "double", "float", "var ", "Exact"};
        int begun = -1;
        for (int i = 0; i < lines.size(); i++) {
            String line = lines.get(i);
            boolean comment = line.trim().startsWith("*") || line.trim().startsWith("/");
            for (String word : none) {
                hold(comment || !line.contains(word), "line " + (i + 1) + ": " + word);
            }
            hold(line.chars().allMatch(c -> c < 128), "line " + (i + 1) + ": signs above 127");
            hold(line.length() <= 120, "line " + (i + 1) + ": longer than 120");
            hold(!line.startsWith("import ") || line.equals("import java.util.Arrays;"), "rule 4: " + line);
            hold(!line.startsWith("package "), "a package");
            hold(!line.contains("while"), "rule 9: an end not seen in line " + (i + 1));
            if (line.matches(" {4,8}[a-z][^;=]*\\) \\{") && !line.matches(" {8}(if|for|switch|else).*")) {
                begun = i;
            }
            if (begun >= 0 && line.matches(" {4,8}\\}")) {
                hold(i - begun <= LINES, "rule 11: a method of " + (i - begun) + " lines, from " + (begun + 1));
            }
        }
    }
}
