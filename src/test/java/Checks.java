import java.io.IOException;
import java.io.UncheckedIOException;
import java.nio.file.Files;
import java.nio.file.Path;

/** What the tests by hand share: the marsh under test, rows that are counted, short ways to tell a law or a row. */
abstract class Checks {
    private static final String DOCUMENT = words(Path.of("../shared/DOC.md"));
    static final int BAD = -1, NOT = -2, FULL = -3, STATE = -5, VOID = -2000000000;
    static final int NOTHING = -11, OTHER_KIND = -12, NO_PLACE = -13, BELOW_ZERO = -14;
    static final int GIRL_PLACE = 0, BREATH = 1, FROG_PLACE = 2, KEEPS = 3, OWES = 4, HELD = 5, TWO = 6, HOUR = 7;
    static final int MIN = Integer.MIN_VALUE, MAX = Integer.MAX_VALUE;
    static FrogBreath x;
    static String about = "";
    private static int rows;
    private static int wrong;

    private static String words(Path file) {
        try {
            return Files.readString(file).replaceAll("\\s+", " ");
        } catch (IOException e) {
            throw new UncheckedIOException(e);
        }
    }

    /** Begins the rows of a sentence, which must stand in the document by these words, on a new object. */
    static void told(String sentence) {
        about = sentence;
        x = new FrogBreath();
        hold("the document tells this", DOCUMENT.contains(sentence));
    }

    static void due(String what, long got, long want) {
        rows++;
        if (got != want) {
            wrong++;
            System.out.println(about + ": " + what + " answered " + got + ", due is " + want);
        }
    }

    static void hold(String what, boolean so) {
        due(what, so ? 1 : 0, 1);
    }

    /** Ends the run: with exit code 1, if a row was wrong. */
    static void finish() {
        System.out.println(rows + " rows, " + wrong + " wrong");
        if (wrong != 0) {
            System.exit(1);
        }
    }

    static void feedAll(FrogBreath marsh, String text) {
        for (int i = 0; i < text.length(); i++) {
            marsh.feed(text.charAt(i));
        }
    }

    static int lawOf(String text) {
        feedAll(x, text);
        return x.law();
    }

    static void bytes(FrogBreath marsh, int shelf, int... values) {
        marsh.row(shelf, 0, values.length);
        for (int i = 0; i < values.length; i++) {
            marsh.put(shelf, i, values[i]);
        }
    }

    static void bytes(int shelf, int... values) {
        bytes(x, shelf, values);
    }

    static void holds(int shelf, long... values) {
        for (int i = 0; i < values.length; i++) {
            due("element " + i + " of shelf " + shelf, x.element(shelf, i), values[i]);
        }
    }
}
