import java.lang.reflect.InvocationTargetException;
import java.lang.reflect.Method;
import java.util.ArrayList;
import java.util.Arrays;
import java.util.List;
import java.util.function.Supplier;

/**
 * Each call that is refused, and each call in thought: what it answers, and that it changes nothing. It is made on
 * one of two objects alike; then both are asked for all that can be seen, and both are led on alike.
 */
public final class RefusalTests extends Checks {
    /** Stands for an answer that may be any. */
    private static final long ANY = 1L << 40;
    private static final long NO_ELEMENT = Long.MIN_VALUE;

    public static void main(String[] args) {
        emptyMarsh();
        bounds();
        boundsOfRows();
        states();
        full();
        firstNamed();
        thoughts();
        finish();
    }

    private static long call(FrogBreath marsh, String name, long... args) {
        for (Method m : FrogBreath.class.getDeclaredMethods()) {
            Class<?>[] types = m.getParameterTypes();
            if (m.getName().equals(name) && types.length == args.length) {
                Object[] values = new Object[args.length];
                for (int i = 0; i < args.length; i++) {
                    if (types[i] == int.class) {
                        values[i] = (int) args[i];
                    } else {
                        values[i] = args[i];
                    }
                }
                try {
                    return ((Number) m.invoke(marsh, values)).longValue();
                } catch (IllegalAccessException | InvocationTargetException e) {
                    throw new IllegalStateException(name + Arrays.toString(args), e);
                }
            }
        }
        throw new IllegalArgumentException("no call " + name);
    }

    // ---- the marshes

    private static FrogBreath empty() {
        return new FrogBreath();
    }

    /** Some of all: two changes to undo, one to do again, an image, a law, a text on the tape, all kinds of shelves. */
    private static FrogBreath some() {
        FrogBreath marsh = new FrogBreath();
        marsh.girl(0);
        marsh.girl(21);
        marsh.girl(17);
        marsh.frog(8, 3);
        marsh.frog(35, 1);
        marsh.frog(20, 0);
        marsh.frog(2, 2);
        feedAll(marsh, "k+h/3");
        marsh.law();
        marsh.mend(0, BREATH, 70);
        marsh.mend(1, KEEPS, 2);
        marsh.mend(2, GIRL_PLACE, 16);
        marsh.undo();
        marsh.lends(0, 60);
        marsh.lends(11, 40);
        marsh.lends(12, 20);
        marsh.hour();
        marsh.image();
        marsh.hour();
        marsh.over(2);
        feedAll(marsh, "b/9+f");
        for (int kind = 0; kind <= 7; kind++) {
            marsh.body(kind);
        }
        bytes(marsh, 0, 100, 54, 100);
        marsh.row(1, 1, 3);
        marsh.put(1, 1, -300);
        bytes(marsh, 2, 4, 4, -1, 4, 5, 5, 2, 5);
        marsh.keep(3, 4);
        marsh.row(4, 1, 4);
        marsh.put(4, 2, 77);
        marsh.act(7, 1, 9);
        return marsh;
    }

    /** All full: girls, frogs, tape, bodies, changes; a row of 60 and one of none. */
    private static FrogBreath allFull() {
        FrogBreath marsh = new FrogBreath();
        for (int i = 0; i < 8; i++) {
            marsh.girl(i * 4);
            marsh.frog(35 - i * 3, i);
        }
        for (int i = 0; i < 43; i++) {
            marsh.mend(i % 8, HELD, i + 1);
        }
        marsh.lends(0, 40);
        marsh.lends(11, 30);
        for (int i = 0; i < 119; i++) {
            marsh.feed(i % 2 == 0 ? '0' + i % 5 : '+');
        }
        marsh.feed('1');
        for (int i = 0; i < 50; i++) {
            marsh.body(i % 8);
        }
        marsh.row(0, 0, 60);
        marsh.row(1, 3, 0);
        return marsh;
    }

    // ---- what can be seen

    /** All that calls can tell and that change nothing. */
    private static List<Long> looked(FrogBreath marsh) {
        List<Long> seen = new ArrayList<>();
        numbers(marsh, seen);
        for (int what = 0; what <= 5; what++) {
            seen.add((long) marsh.count(what));
        }
        for (int i = 0; i < 12; i++) {
            seen.add((long) marsh.trace(i));
        }
        int[] places = {0, 1, 2, 3, 4, 7, 8, 59};
        for (int shelf = 0; shelf <= 5; shelf++) {
            seen.add((long) marsh.taken(shelf, 0));
            for (int i : places) {
                seen.add(marsh.element(shelf, i));
            }
        }
        for (int f = 0; f < 8; f++) {
            seen.add((long) marsh.loses(f));
            seen.add((long) marsh.later(9, f, 0));
        }
        return seen;
    }

    private static void numbers(FrogBreath marsh, List<Long> seen) {
        for (int what = 0; what <= 7; what++) {
            for (int number = 0; number < (what >= TWO ? 1 : 8); number++) {
                seen.add((long) marsh.of(number, what));
            }
        }
        for (int what = 0; what <= 4; what++) {
            seen.add((long) marsh.led(what));
        }
    }

    /** What comes of doing again and undoing all, of the image, the tape, an hour, and of what comes next. */
    private static List<Long> ledOn(FrogBreath marsh) {
        List<Long> seen = new ArrayList<>();
        for (int i = 0; i < 3; i++) {
            seen.add((long) marsh.redo());
        }
        numbers(marsh, seen);
        for (int i = 0; i < 42; i++) {
            seen.add((long) marsh.undo());
        }
        numbers(marsh, seen);
        seen.add((long) marsh.back());
        seen.add((long) marsh.law());
        for (int f = 0; f < 8; f++) {
            seen.add((long) marsh.loses(f));
        }
        seen.add((long) marsh.hour());
        numbers(marsh, seen);
        seen.add((long) marsh.girl(5));
        seen.add((long) marsh.frog(5, 5));
        seen.add((long) marsh.body(5));
        seen.add((long) marsh.act(5, 3, 5));
        return seen;
    }

    private static void unchanged(Supplier<FrogBreath> marshes, long want, String name, long... args) {
        FrogBreath called = marshes.get();
        String what = name + Arrays.toString(args);
        long answer = call(called, name, args);
        if (want != ANY) {
            due(what, answer, want);
        }
        due(what + " again", call(called, name, args), answer);
        hold(what + " changes nothing to be seen", looked(called).equals(looked(marshes.get())));
        called = marshes.get();
        call(called, name, args);
        hold(what + " changes nothing to come", ledOn(called).equals(ledOn(marshes.get())));
    }

    // ---- what is refused

    private static void emptyMarsh() {
        about = "in an empty marsh";
        Supplier<FrogBreath> none = RefusalTests::empty;
        for (int what = 0; what <= 5; what++) {
            unchanged(none, VOID, "of", 0, what);
            unchanged(none, VOID, "mend", 0, what, 0);
            unchanged(none, 0, "count", what);
        }
        for (int what = 0; what <= 4; what++) {
            unchanged(none, VOID, "later", 0, 0, what);
            unchanged(none, 0, "led", what);
        }
        unchanged(none, 5, "of", 0, TWO);
        unchanged(none, 0, "of", 0, HOUR);
        unchanged(none, 5, "mend", 0, TWO, 5);
        unchanged(none, 0, "mend", 0, HOUR, 0);
        unchanged(none, BAD, "loses", 0);
        unchanged(none, 0, "marsh", 40, 0);
        unchanged(none, 0, "marsh", 40, 1);
        unchanged(none, 0, "backWhen", -1);
        unchanged(none, BAD, "backWhen", 0);
        unchanged(none, BAD, "loan", 0, 1, 0);
        unchanged(none, BAD, "best", 0, 1, 0);
        unchanged(none, 0, "dealt", 1, -1);
        unchanged(none, BAD, "dealt", 1, 0);
        unchanged(none, BAD, "least", 0, 0);
        unchanged(none, 1, "bars", 0, -1);
        unchanged(none, 0, "bars", 0, 0);
        unchanged(none, BAD, "bars", 1, 0);
        unchanged(none, 0, "stops", 0, 0);
        unchanged(none, 0, "stops", 10, 1);
        unchanged(none, BAD, "judge", 0, 0);
        unchanged(none, BAD, "fits", 0, 0, 0);
        unchanged(none, 0, "alike");
        unchanged(none, BAD, "ring", 0);
        unchanged(none, BAD, "byTurns", 0, 1, 0);
        unchanged(none, 0, "drawn", 7, 304099, -1);
        unchanged(none, BAD, "drawn", 7, 304099, 0);
        unchanged(none, BAD, "lends", 0, 1);
        unchanged(none, BAD, "over", 0);
        unchanged(none, STATE, "back");
        unchanged(none, STATE, "undo");
        unchanged(none, STATE, "redo");
        unchanged(none, -100, "law");
        unchanged(none, 0, "act", 0, 0, 5);
        unchanged(none, BAD, "trace", 0);
        unchanged(none, 0, "frogs", 0, 0, 8);
        unchanged(none, 0, "frogs", 0, -1, 1);
        unchanged(none, BAD, "keep", 0, 0);
        unchanged(none, 1, "keep", 0, -1);
        unchanged(none, NOTHING, "put", 0, 0, 1);
        unchanged(none, NO_ELEMENT, "element", 0, 0);
        unchanged(none, NOTHING, "shift", 0, 0, 0, 0, 0);
        unchanged(none, NOTHING, "taken", 0, 0);
    }

    /** Argument k of a call that is as said may be low .. high; all else is refused so, and low and high are not. */
    private static void within(long refusal, String name, int k, long low, long high, long... args) {
        long[] wrong = {MIN, low - 1, high + 1, MAX};
        for (long v : wrong) {
            long[] told = args.clone();
            told[k] = v;
            unchanged(RefusalTests::some, refusal, name, told);
        }
        long[] right = {low, high};
        for (long v : right) {
            long[] told = args.clone();
            told[k] = v;
            hold(name + Arrays.toString(told) + " is not refused so", call(some(), name, told) != refusal);
        }
    }

    private static void bounds() {
        about = "of three girls, four frogs";
        within(BAD, "girl", 0, 0, 35, 0);
        within(BAD, "frog", 0, 0, 35, 0, 0);
        within(BAD, "frog", 1, 0, 9, 0, 0);
        long[][] numbers = {{2, 0, 35}, {2, 0, 99}, {3, 0, 35}, {3, 0, 9}, {3, -1, 2}, {3, 0, 99}, {0, 0, 11},
            {0, 0, 11}};
        for (int what = 0; what <= 7; what++) {
            within(VOID, "mend", 0, 0, numbers[what][0], 0, what, 0);
            within(VOID, "mend", 2, numbers[what][1], numbers[what][2], 0, what, 0);
            within(VOID, "of", 0, 0, numbers[what][0], 0, what);
        }
        within(VOID, "mend", 1, 0, 7, 0, 0, 0);
        within(VOID, "of", 1, 0, 7, 0, 0);
        within(BAD, "feed", 0, 0, 255, 0);
        within(BAD, "loses", 0, 0, 3, 0);
        for (int what = 0; what <= 3; what++) {
            within(VOID, "later", 0, 0, 40, 0, 0, what);
            within(VOID, "later", 1, 0, what == 3 ? 2 : 3, 5, 0, what);
        }
        within(VOID, "later", 2, 0, 3, 5, 0, 0);
        within(BAD, "marsh", 0, 0, 40, 0, 0);
        within(BAD, "marsh", 1, 0, 1, 0, 0);
        within(BAD, "backWhen", 0, -1, 3, 0);
        within(BAD, "loan", 0, 20, 23, 20, 9, 0);
        within(BAD, "loan", 1, 1, 99, 0, 9, 0);
        within(BAD, "loan", 2, 0, 1, 0, 9, 0);
        within(BAD, "best", 0, 0, 2, 0, 9, 0);
        within(BAD, "best", 1, 1, 99, 0, 9, 0);
        within(BAD, "best", 2, 0, 1, 0, 9, 0);
        within(BAD, "dealt", 0, 1, 99, 1, -1);
        within(BAD, "dealt", 1, -1, 2, 1, -1);
        within(BAD, "least", 0, 20, 23, 20, 0);
        within(BAD, "least", 1, 0, 209, 0, 0);
        within(BAD, "bars", 0, 0, 15, 0, 0);
        within(BAD, "bars", 1, -1, 9999, 0, 0);
        within(BAD, "stops", 0, 0, 10, 0, 0);
        within(BAD, "stops", 1, 0, 1, 0, 0);
        within(BAD, "judge", 1, 0, 3, 0, 0);
        within(BAD, "fits", 1, 0, 3, 0, 0, 0);
        within(BAD, "fits", 2, 0, 1, 0, 0, 0);
        within(BAD, "ring", 0, 0, 2, 0);
        within(BAD, "byTurns", 0, 0, 3, 0, 1, 0);
        within(BAD, "byTurns", 1, 1, 5, 0, 1, 0);
        within(BAD, "byTurns", 2, 0, 1, 0, 1, 0);
        within(BAD, "drawn", 1, 10100, 14099, 1, 10100, -1);
        within(BAD, "drawn", 1, 300100, 304099, 1, 300100, -1);
        within(BAD, "drawn", 2, -1, 2, 1, 10100, -1);
        within(BAD, "lends", 0, 20, 23, 23, 1);
        within(BAD, "lends", 1, 1, 99, 23, 1);
        within(BAD, "over", 0, 0, 3, 0);
        within(BAD, "led", 0, 0, 4, 0);
        within(BAD, "body", 0, 0, 7, 0);
        within(BAD, "trace", 0, 0, 7, 0);
        within(BAD, "count", 0, 0, 5, 0);
        pairs();
    }

    /** Of all 10 times a girl, and a frog, about those that are there. */
    private static void pairs() {
        for (int gf = -21; gf <= 45; gf++) {
            if (gf < 0 || gf / 10 > 2 || gf % 10 > 3) {
                unchanged(RefusalTests::some, BAD, "loan", gf, 9, 0);
                unchanged(RefusalTests::some, BAD, "least", gf, 0);
                unchanged(RefusalTests::some, BAD, "lends", gf, 1);
            } else {
                hold("loan of " + gf, call(some(), "loan", gf, 9, 0) != BAD);
                hold("least of " + gf, call(some(), "least", gf, 0) == 1);
                hold("lends of " + gf, call(some(), "lends", gf, 1) != BAD);
            }
        }
    }

    private static void boundsOfRows() {
        about = "of shelves";
        within(BAD, "frogs", 0, 0, 5, 0, 0, 1);
        within(BAD, "frogs", 2, 1, 8, 2, 0, 1);
        within(BAD, "judge", 0, 0, 5, 0, 0);
        within(BAD, "fits", 0, 0, 5, 0, 0, 0);
        within(BAD, "keep", 0, 0, 5, 0, 0);
        within(BAD, "keep", 1, -1, 7, 0, 0);
        within(BAD, "row", 0, 0, 5, 0, 0, 0);
        within(BAD, "row", 1, 0, 4, 0, 0, 0);
        within(BAD, "put", 0, 0, 5, 0, 0, 0);
        within(NO_PLACE, "put", 1, 0, 2, 0, 0, 0);
        within(NO_PLACE, "put", 1, 0, 3, 4, 0, 0);
        within(NO_ELEMENT, "element", 0, 0, 2, 0, 0);
        within(NO_ELEMENT, "element", 1, 0, 2, 0, 0);
        within(NO_ELEMENT, "element", 1, 0, 3, 4, 0);
        within(BAD, "shift", 0, 0, 5, 1, 0, 4, 0, 1);
        within(NO_PLACE, "shift", 1, 0, 2, 1, 0, 4, 0, 1);
        within(BAD, "shift", 2, 0, 5, 1, 0, 4, 0, 1);
        within(NO_PLACE, "shift", 3, 0, 3, 1, 0, 4, 0, 1);
        within(NO_PLACE, "shift", 4, 0, 3, 1, 0, 4, 0, 1);
        within(NO_PLACE, "shift", 1, 0, 3, 1, 0, 4, 0, 0);
        within(NO_PLACE, "shift", 3, 0, 4, 1, 0, 4, 0, 0);
        within(BAD, "taken", 0, 0, 5, 3, 0);
        within(BAD, "taken", 1, 0, 7, 3, 0);
        Supplier<FrogBreath> some = RefusalTests::some;
        for (int sort = 0; sort <= 4; sort++) {
            unchanged(some, BAD, "row", 0, sort, 61);
            unchanged(some, BAD, "row", 0, sort, MAX);
            unchanged(some, BELOW_ZERO, "row", 0, sort, -1);
            unchanged(some, BELOW_ZERO, "row", 0, sort, MIN);
        }
        for (int frog = 0; frog <= 3; frog++) {
            unchanged(some, OTHER_KIND, "judge", 1, frog);
            unchanged(some, OTHER_KIND, "judge", 3, frog);
            unchanged(some, NOTHING, "judge", 5, frog);
            unchanged(some, OTHER_KIND, "fits", 1, frog, 0);
            unchanged(some, OTHER_KIND, "fits", 3, frog, 1);
            unchanged(some, NOTHING, "fits", 5, frog, 1);
        }
        unchanged(some, OTHER_KIND, "frogs", 1, 0, 1);
        unchanged(some, OTHER_KIND, "frogs", 3, 0, 1);
        unchanged(some, 0, "frogs", 5, 0, 1);
        unchanged(some, 0, "frogs", 2, 5, 1);
        unchanged(some, 0, "frogs", 2, -1, 8);
        unchanged(some, 0, "frogs", 2, MIN, 8);
        unchanged(some, 0, "frogs", 2, MAX, 8);
        unchanged(some, 0, "frogs", 0, 0, 1);
        unchanged(some, OTHER_KIND, "put", 3, 0, 1);
        unchanged(some, NOTHING, "put", 5, 0, 1);
        unchanged(some, NO_ELEMENT, "element", 3, 0);
        unchanged(some, NO_ELEMENT, "element", 5, 0);
        unchanged(some, NOTHING, "shift", 5, 0, 0, 0, 0);
        unchanged(some, NOTHING, "shift", 0, 0, 5, 0, 0);
        unchanged(some, OTHER_KIND, "shift", 3, 0, 0, 0, 0);
        unchanged(some, OTHER_KIND, "shift", 0, 0, 3, 0, 0);
        unchanged(some, OTHER_KIND, "shift", 0, 0, 1, 0, 0);
        unchanged(some, OTHER_KIND, "taken", 0, 0);
        unchanged(some, OTHER_KIND, "taken", 3, 2);
        unchanged(some, NOTHING, "taken", 5, 0);
    }

    private static void states() {
        about = "by what stands";
        Supplier<FrogBreath> some = RefusalTests::some;
        unchanged(some, STATE, "lends", 0, 1);
        unchanged(some, STATE, "lends", 21, 1);
        unchanged(some, STATE, "lends", 3, 11);
        unchanged(some, STATE, "lends", 13, 99);
        unchanged(some, STATE, "over", 2);
        unchanged(some, STATE, "over", 3);
        hold("all she has", call(some(), "lends", 3, 10) == 0);
        unchanged(RefusalTests::allFull, STATE, "back");
        unchanged(RefusalTests::allFull, STATE, "redo");
        Supplier<FrogBreath> undone = () -> {
            FrogBreath marsh = some();
            marsh.undo();
            marsh.undo();
            return marsh;
        };
        unchanged(undone, STATE, "undo");
        Supplier<FrogBreath> oneGirl = () -> {
            FrogBreath marsh = new FrogBreath();
            marsh.girl(9);
            return marsh;
        };
        unchanged(oneGirl, NOT, "ring", 0);
        unchanged(oneGirl, NOT, "best", 0, 9, 0);
        unchanged(oneGirl, NOT, "best", 0, 9, 1);
        Supplier<FrogBreath> neverBack = () -> {
            FrogBreath marsh = oneGirl.get();
            marsh.frog(35, 9);
            marsh.lends(0, 60);
            marsh.mend(0, TWO, 11);
            marsh.row(0, 0, 0);
            return marsh;
        };
        unchanged(neverBack, NOT, "backWhen", 0);
        unchanged(neverBack, NOT, "backWhen", -1);
        unchanged(neverBack, NOT, "loan", 0, 9, 0);
        unchanged(neverBack, NOT, "loan", 0, 9, 1);
        unchanged(neverBack, NOT, "best", 0, 9, 1);
        unchanged(neverBack, NOT, "least", 0, 209);
        unchanged(neverBack, NOT, "judge", 0, 0);
    }

    private static void full() {
        about = "all full";
        Supplier<FrogBreath> all = RefusalTests::allFull;
        int[] counts = {8, 8, 120, 40, 50, 0};
        for (int what = 0; what <= 5; what++) {
            unchanged(all, counts[what], "count", what);
        }
        unchanged(all, FULL, "girl", 0);
        unchanged(all, FULL, "girl", 35);
        unchanged(all, FULL, "frog", 0, 0);
        unchanged(all, FULL, "frog", 35, 9);
        unchanged(all, FULL, "feed", 0);
        unchanged(all, FULL, "feed", 255);
        unchanged(all, FULL, "body", 0);
        unchanged(all, FULL, "body", 7);
        unchanged(all, 0, "frogs", 0, 0, 8);
        unchanged(all, NO_PLACE, "put", 0, 60, 1);
        unchanged(all, NO_PLACE, "put", 1, 0, 1);
        unchanged(all, NO_ELEMENT, "element", 0, 60);
        unchanged(all, NO_ELEMENT, "element", 1, 0);
        unchanged(all, NO_PLACE, "shift", 0, 0, 0, 1, 60);
        unchanged(all, 60, "shift", 0, 0, 0, 0, 60);
        unchanged(all, VOID, "of", 8, GIRL_PLACE);
        unchanged(all, VOID, "of", 8, HELD);
        unchanged(all, VOID, "mend", 0, OWES, 8);
        unchanged(all, BAD, "keep", 0, 50);
        unchanged(all, 0, "act", 50, 0, 1);
        unchanged(all, BAD, "bars", 256, 0);
        unchanged(all, BAD, "lends", 78, 1);
        unchanged(all, BAD, "lends", 80, 1);
        unchanged(all, STATE, "lends", 0, 1);
        unchanged(all, 43, "mend", 2, HELD, 43);
        unchanged(all, ANY, "dealt", 99, -1);
        unchanged(all, ANY, "dealt", 99, 7);
        unchanged(all, ANY, "stops", 2, 1);
        unchanged(all, ANY, "bars", 255, -1);
        unchanged(all, ANY, "byTurns", 7, 5, 0);
        unchanged(all, ANY, "drawn", MIN, 304099, 7);
        unchanged(all, ANY, "alike");
        unchanged(all, ANY, "fits", 0, 7, 1);
        unchanged(all, ANY, "backWhen", -1);
    }

    private static void firstNamed() {
        about = "Answers, of several the one named first: BAD (-1): no such number, or it is not as said; NOT (-2): "
                + "as told; FULL (-3); STATE (-5): as told; -11 to -14.";
        Supplier<FrogBreath> all = RefusalTests::allFull;
        Supplier<FrogBreath> some = RefusalTests::some;
        unchanged(all, BAD, "girl", 36);
        unchanged(all, BAD, "frog", 36, 0);
        unchanged(all, BAD, "frog", 0, 10);
        unchanged(all, BAD, "feed", 256);
        unchanged(all, BAD, "feed", -1);
        unchanged(all, BAD, "body", 8);
        unchanged(some, BAD, "lends", 0, 0);
        unchanged(some, BAD, "lends", 0, 100);
        unchanged(some, BAD, "over", 4);
        unchanged(some, BAD, "frogs", 1, 0, 0);
        unchanged(some, BAD, "frogs", 3, 0, 9);
        unchanged(some, OTHER_KIND, "frogs", 3, -1, 1);
        unchanged(some, BAD, "frogs", 5, 0, 9);
        unchanged(some, BAD, "judge", 5, 4);
        unchanged(some, BAD, "judge", 3, 4);
        unchanged(some, BAD, "fits", 5, 4, 0);
        unchanged(some, BAD, "fits", 5, 0, 2);
        unchanged(some, BAD, "fits", 3, 0, -1);
        unchanged(some, BAD, "row", 6, 0, -1);
        unchanged(some, BAD, "row", 0, 5, -1);
        unchanged(some, BAD, "row", 0, -1, MIN);
        unchanged(some, BAD, "put", 6, -1, 1);
        unchanged(some, NOTHING, "put", 5, -1, 1);
        unchanged(some, OTHER_KIND, "put", 3, -1, 1);
        unchanged(some, BAD, "shift", 6, -1, 5, 0, 0);
        unchanged(some, BAD, "shift", 3, -1, -1, 0, 0);
        unchanged(some, NOTHING, "shift", 5, -1, 3, -1, -1);
        unchanged(some, NOTHING, "shift", 3, 0, 5, 0, 0);
        unchanged(some, OTHER_KIND, "shift", 3, -1, 3, -1, -1);
        unchanged(some, OTHER_KIND, "shift", 0, 9, 1, 9, 9);
        unchanged(some, OTHER_KIND, "shift", 0, 0, 1, 0, -1);
        unchanged(some, NO_PLACE, "shift", 0, 0, 0, 0, -1);
        unchanged(some, BAD, "taken", 5, 8);
        unchanged(some, BAD, "taken", 0, -1);
        unchanged(some, BAD, "keep", 6, 99);
    }

    /** Calls that tell and change nothing, whatever they answer. */
    private static void thoughts() {
        about = "in thought";
        Supplier<FrogBreath> some = RefusalTests::some;
        for (int what = 0; what <= 3; what++) {
            unchanged(some, ANY, "later", 40, 1, what);
        }
        for (int what = 0; what <= 1; what++) {
            unchanged(some, ANY, "marsh", 40, what);
            unchanged(some, ANY, "loan", 13, 99, what);
            unchanged(some, ANY, "best", 1, 99, what);
            unchanged(some, ANY, "stops", 3, what);
            unchanged(some, ANY, "fits", 0, 0, what);
            unchanged(some, ANY, "byTurns", 0, 5, what);
            unchanged(some, ANY, "dealt", 50, what);
        }
        for (int what = 0; what <= 7; what++) {
            unchanged(some, ANY, "of", 0, what);
        }
        unchanged(some, ANY, "loses", 0);
        unchanged(some, ANY, "backWhen", 0);
        unchanged(some, ANY, "backWhen", -1);
        unchanged(some, ANY, "dealt", 50, -1);
        unchanged(some, ANY, "least", 13, 95);
        unchanged(some, ANY, "bars", 15, -1);
        unchanged(some, ANY, "bars", 15, 60);
        unchanged(some, ANY, "judge", 0, 0);
        unchanged(some, ANY, "alike");
        unchanged(some, ANY, "ring", 2);
        unchanged(some, ANY, "drawn", 9, 304050, -1);
        unchanged(some, ANY, "drawn", 9, 304050, 1);
        unchanged(some, ANY, "led", 2);
        unchanged(some, ANY, "trace", 3);
        unchanged(some, ANY, "element", 1, 1);
        unchanged(some, ANY, "taken", 3, 1);
        unchanged(some, ANY, "mend", 0, BREATH, call(some(), "of", 0, BREATH));
        unchanged(some, ANY, "shift", 1, 1, 4, 2, 0);
    }
}
