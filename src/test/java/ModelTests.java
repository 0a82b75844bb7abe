import java.util.ArrayList;
import java.util.List;

/** Long runs of drawn calls, wild arguments among them, against a second, slower writing of the document. */
public final class ModelTests {
    private static final int RUNS = 1500, CALLS = 512;
    private static long drawn = 20261119L;
    private static FrogBreath real;
    private static Model model;
    private static int wrong;
    private static int calls;

    private static int draw(int low, int high) {
        drawn = drawn * 6364136223846793005L + 1442695040888963407L;
        return low + (int) ((drawn >>> 33) % (high - low + 1));
    }

    /** Mostly within, sometimes just outside, seldom far outside. */
    private static int about(int low, int high) {
        int kind = draw(0, 99);
        if (kind < 90) {
            return draw(low, high);
        }
        if (kind < 98) {
            return kind % 2 == 0 ? low - 1 : high + 1;
        }
        int[] far = {Integer.MIN_VALUE, Integer.MAX_VALUE, -1000000, 1000000};
        return far[draw(0, 3)];
    }

    public static void main(String[] args) {
        for (int run = 1; run <= RUNS && wrong == 0; run++) {
            begin();
            StringBuilder told = new StringBuilder();
            people(told);
            while (calls < CALLS && wrong == 0) {
                oneCall(told);
            }
            if (wrong != 0) {
                System.out.println("run " + run + ": " + told);
            }
        }
        int texts = allTexts("1b+*<&|!-()?;$", 4) + allTexts("(!-1)", 8) + allTexts("1<()", 8) + allTexts("1?;", 9);
        System.out.println(wrong == 0 ? RUNS + " runs, " + texts + " texts as the model's" : "not as the model's");
        if (wrong != 0) {
            System.exit(1);
        }
    }

    private static void begin() {
        real = new FrogBreath();
        model = new Model();
        calls = 0;
    }

    /** All texts of these signs, so long at most: how many; each is read as the model reads it. */
    private static int allTexts(String signs, int longest) {
        int texts = 0;
        for (int length = 0; length <= longest && wrong == 0; length++) {
            long all = Math.round(Math.pow(signs.length(), length));
            for (long which = 0; which < all && wrong == 0; which++) {
                StringBuilder text = new StringBuilder();
                long left = which;
                for (int i = 0; i < length; i++) {
                    text.append(signs.charAt((int) (left % signs.length())));
                    left /= signs.length();
                }
                oneText(text.toString());
                texts++;
            }
        }
        return texts;
    }

    private static void oneText(String text) {
        if (calls + text.length() >= CALLS) {
            begin();
        }
        for (int i = 0; i < text.length(); i++) {
            real.feed(text.charAt(i));
        }
        calls += text.length() + 1;
        int fault = Model.fault(text);
        int got = real.law();
        int want = fault < 0 ? 1 : -100 - fault;
        if (got != want) {
            wrong++;
            System.out.println("law of " + text + " answered " + got + ", by the model " + want);
        }
    }

    private static void people(StringBuilder told) {
        int girls = draw(0, 8);
        int frogs = draw(0, 8);
        for (int g = 0; g < girls; g++) {
            int place = draw(0, 35);
            check(told, "girl", real.girl(place), model.girl(place), place);
        }
        for (int f = 0; f < frogs; f++) {
            int place = draw(0, 35);
            int keeps = draw(0, draw(1, 9));
            check(told, "frog", real.frog(place, keeps), model.frog(place, keeps), place, keeps);
        }
        if (draw(0, 1) == 0) {
            int two = draw(0, 3);
            check(told, "mend", real.mend(0, 6, two), model.mend(0, 6, two), 0, 6, two);
        }
    }

    private static void check(StringBuilder told, String call, long got, long want, long... args) {
        calls++;
        if (calls > CALLS) {
            // what calls answer from here on is free
            return;
        }
        told.append("\n  ").append(call).append(java.util.Arrays.toString(args)).append(" = ").append(want);
        if (got != want) {
            wrong++;
            told.append(", but answered ").append(got);
        }
    }

    private static int aGirl() {
        return about(0, Math.max(0, model.girls.size() - 1));
    }

    private static int aFrog() {
        return about(0, Math.max(0, model.frogs.size() - 1));
    }

    private static int aPair() {
        int girl = draw(0, Math.max(0, model.girls.size() - 1));
        int frog = draw(0, Math.max(0, model.frogs.size() - 1));
        return draw(0, 19) == 0 ? about(0, 99) : 10 * girl + frog;
    }

    private static void oneCall(StringBuilder told) {
        int call = draw(0, 99);
        if (call < 30) {
            deeds(told, call);
        } else if (call < 62) {
            thoughts(told, call);
        } else if (call < 72) {
            tape(told);
        } else if (call < 80) {
            reeds(told, call);
        } else {
            rows(told, call);
        }
    }

    private static void deeds(StringBuilder told, int call) {
        int a;
        int b;
        int c;
        switch (call) {
            case 0:
                a = about(0, 35);
                check(told, "girl", real.girl(a), model.girl(a), a);
                break;
            case 1:
                a = about(0, 35);
                b = about(0, 9);
                check(told, "frog", real.frog(a, b), model.frog(a, b), a, b);
                break;
            case 2:
            case 3:
            case 4:
            case 5:
            case 6:
                b = about(0, 7);
                a = b < 2 ? aGirl() : b < 6 ? aFrog() : about(0, 0);
                int[] most = {35, 99, 35, 9, 8, 99, 11, 11};
                c = about(b == 4 ? -1 : 0, b >= 0 && b < 8 ? most[b] : 9);
                check(told, "mend", real.mend(a, b, c), model.mend(a, b, c), a, b, c);
                break;
            case 7:
            case 8:
            case 9:
            case 10:
                for (int what = 0; what < 8; what++) {
                    a = draw(0, 8);
                    check(told, "of", real.of(a, what), model.of(a, what), a, what);
                }
                break;
            case 11:
            case 12:
            case 13:
            case 14:
            case 15:
            case 16:
                check(told, "hour", real.hour(), model.hour());
                break;
            case 17:
            case 18:
            case 19:
            case 20:
            case 21:
                a = aPair();
                b = about(1, 99);
                check(told, "lends", real.lends(a, b), model.lends(a, b), a, b);
                break;
            case 22:
                a = aFrog();
                check(told, "over", real.over(a), model.over(a), a);
                break;
            case 23:
                a = about(0, 4);
                check(told, "led", real.led(a), model.led(a), a);
                break;
            case 24:
                check(told, "image", real.image(), model.image());
                break;
            case 25:
                check(told, "back", real.back(), model.back());
                break;
            case 26:
            case 27:
                check(told, "undo", real.undo(), model.undo());
                break;
            case 28:
                check(told, "redo", real.redo(), model.redo());
                break;
            default:
                a = about(0, 5);
                check(told, "count", real.count(a), model.count(a), a);
                break;
        }
    }

    private static void thoughts(StringBuilder told, int call) {
        int a = aPair();
        int b = about(1, 99);
        int c = about(0, 1);
        int f = aFrog();
        int g = aGirl();
        switch (call) {
            case 30:
            case 31:
                check(told, "loses", real.loses(f), model.loses(f), f);
                break;
            case 32:
            case 33:
            case 34:
            case 35:
                a = about(0, 40);
                c = about(0, 3);
                b = c == 3 ? g : f;
                check(told, "later", real.later(a, b, c), model.later(a, b, c), a, b, c);
                break;
            case 36:
            case 37:
                a = about(0, 40);
                check(told, "marsh", real.marsh(a, c), model.marsh(a, c), a, c);
                break;
            case 38:
                check(told, "backWhen", real.backWhen(f), model.backWhen(f), f);
                break;
            case 39:
                check(told, "backWhen", real.backWhen(-1), model.backWhen(-1), -1);
                break;
            case 40:
            case 41:
                check(told, "loan", real.loan(a, b, c), model.loan(a, b, c), a, b, c);
                break;
            case 42:
            case 43:
                check(told, "best", real.best(g, b, c), model.best(g, b, c), g, b, c);
                break;
            case 44:
                if (draw(0, 3) == 0) {
                    g = about(-1, 7);
                    check(told, "dealt", real.dealt(b, g), model.dealt(b, g), b, g);
                }
                break;
            case 45:
            case 46:
                b = about(0, draw(0, 1) == 0 ? 209 : 60);
                check(told, "least", real.least(a, b), model.least(a, b), a, b);
                break;
            case 47:
            case 48:
                a = about(0, (1 << model.frogs.size()) - 1);
                b = draw(0, 1) == 0 ? -1 : about(0, 9999);
                check(told, "bars", real.bars(a, b), model.bars(a, b), a, b);
                break;
            case 49:
            case 50:
                a = about(0, 10);
                check(told, "stops", real.stops(a, c), model.stops(a, c), a, c);
                break;
            case 51:
            case 52:
                a = about(0, 5);
                check(told, "judge", real.judge(a, f), model.judge(a, f), a, f);
                break;
            case 53:
            case 54:
            case 55:
                a = about(0, 5);
                check(told, "fits", real.fits(a, f, c), model.fits(a, f, c), a, f, c);
                break;
            case 56:
                check(told, "alike", real.alike(), model.alike());
                break;
            case 57:
                check(told, "ring", real.ring(g), model.ring(g), g);
                break;
            case 58:
            case 59:
                a = about(1, 5);
                check(told, "byTurns", real.byTurns(f, a, c), model.byTurns(f, a, c), f, a, c);
                break;
            default:
                a = draw(0, 1) == 0 ? draw(0, 9) : about(-1000000, 1000000);
                b = 10000 * about(1, draw(1, 30)) + 100 * draw(0, 41) + draw(0, 99);
                g = draw(0, 1) == 0 ? -1 : g;
                check(told, "drawn", real.drawn(a, b, g), model.drawn(a, b, g), a, b, g);
                break;
        }
    }

    private static void tape(StringBuilder told) {
        StringBuilder text = new StringBuilder();
        int lines = draw(1, 3);
        for (int i = 0; i < lines; i++) {
            text.append(i == 0 ? "" : ";").append(draw(0, 2) == 0 ? "" : expression(2) + "?").append(expression(2));
        }
        int spoilt = draw(0, 3);
        if (spoilt == 0) {
            text.setCharAt(draw(0, text.length() - 1), "bkdhgf019+-*/%<=>!&|()?; x".charAt(draw(0, 25)));
        } else if (spoilt == 1) {
            text.setLength(draw(0, text.length()));
        }
        for (int i = 0; i < text.length() && i < 124; i++) {
            int letter = draw(0, 999) == 0 ? about(0, 255) : text.charAt(i);
            check(told, "feed", real.feed(letter), model.feed(letter), letter);
        }
        check(told, "law " + text, real.law(), model.law());
    }

    private static String expression(int deep) {
        int kind = draw(0, 9);
        if (deep <= 0 || kind < 3) {
            return draw(0, 2) == 0 ? "" + draw(0, draw(0, 9) == 0 ? 99999 : 12) : "" + "bkdhgf".charAt(draw(0, 5));
        }
        if (kind < 5) {
            return (draw(0, 1) == 0 ? "(" : draw(0, 1) == 0 ? "!(" : "-(") + expression(deep - 1) + ")";
        }
        if (kind == 5) {
            return (draw(0, 1) == 0 ? "!" : "-") + expression(deep - 1);
        }
        return expression(deep - 1) + "+-*/%<=>|&".charAt(draw(0, 9)) + expression(deep - 1);
    }

    private static void reeds(StringBuilder told, int call) {
        int a;
        int b;
        int c;
        switch (call) {
            case 72:
            case 73:
                a = about(0, 7);
                check(told, "body", real.body(a), model.body(a), a);
                break;
            case 74:
                a = about(0, 5);
                b = about(-1, Math.max(0, model.bodies.size() - 1));
                check(told, "keep", real.keep(a, b), model.keep(a, b), a, b);
                break;
            case 75:
                a = about(0, 5);
                b = about(0, 7);
                check(told, "taken", real.taken(a, b), model.taken(a, b), a, b);
                break;
            default:
                a = about(0, Math.max(0, model.bodies.size() - 1));
                b = about(0, 3);
                c = about(-100, 100);
                check(told, "act", real.act(a, b, c), model.act(a, b, c), a, b, c);
                for (int i = 0; i < 4; i++) {
                    a = about(0, 24);
                    check(told, "trace", real.trace(a), model.trace(a), a);
                }
                check(told, "count", real.count(5), model.count(5), 5);
                break;
        }
    }

    private static void rows(StringBuilder told, int call) {
        int shelf = about(0, 5);
        int i = about(0, draw(0, 1) == 0 ? 5 : 59);
        if (call < 83) {
            int sort = draw(0, 1) == 0 ? 0 : about(0, 4);
            int n = about(0, draw(0, 1) == 0 ? 6 : 60);
            check(told, "row", real.row(shelf, sort, n), model.row(shelf, sort, n), shelf, sort, n);
        } else if (call < 88) {
            long v = draw(0, 2) == 0 ? draw(-1, 100) : draw(0, 1) == 0 ? 100 : drawn;
            check(told, "put", real.put(shelf, i, v), model.put(shelf, i, v), shelf, i, v);
        } else if (call < 91) {
            check(told, "element", real.element(shelf, i), model.element(shelf, i), shelf, i);
        } else if (call < 94) {
            int other = about(0, 5);
            int j = about(0, 6);
            int n = about(0, 6);
            check(told, "shift", real.shift(shelf, i, other, j, n), model.shift(shelf, i, other, j, n), shelf, i, other,
                    j, n);
        } else if (call < 97) {
            book(told, draw(0, 5));
        } else {
            people(told, draw(0, 5));
        }
    }

    /** A book that is so by some keeping, or nearly. */
    private static void book(StringBuilder told, int shelf) {
        if (model.frogs.isEmpty()) {
            return;
        }
        int frog = draw(0, model.frogs.size() - 1);
        int size = draw(0, draw(0, 2) == 0 ? 60 : 8);
        check(told, "row", real.row(shelf, 0, size), model.row(shelf, 0, size), shelf, 0, size);
        for (int i = 0; i < size; i++) {
            int held = i <= 40 ? model.later(i, frog, 0) : 7;
            int v = draw(0, 4) == 0 ? 100 : draw(0, 19) == 0 ? draw(0, 99) : held;
            check(told, "put", real.put(shelf, i, v), model.put(shelf, i, v), shelf, i, v);
        }
        check(told, "judge", real.judge(shelf, frog), model.judge(shelf, frog), shelf, frog);
        check(told, "fits", real.fits(shelf, frog, 0), model.fits(shelf, frog, 0), shelf, frog, 0);
        check(told, "fits", real.fits(shelf, frog, 1), model.fits(shelf, frog, 1), shelf, frog, 1);
    }

    private static void people(StringBuilder told, int shelf) {
        int size = draw(0, 20);
        check(told, "row", real.row(shelf, 0, size), model.row(shelf, 0, size), shelf, 0, size);
        int[] most = {35, 9, model.girls.size() - 1, 99};
        for (int i = 0; i < size; i++) {
            int v = draw(0, 30) == 0 ? draw(-128, 127) : draw(i % 4 == 2 ? -1 : 0, most[i % 4]);
            check(told, "put", real.put(shelf, i, v), model.put(shelf, i, v), shelf, i, v);
        }
        int from = draw(0, 2) == 0 ? about(0, 8) : 4 * draw(0, 2);
        int n = about(1, draw(0, 1) == 0 ? 2 : 8);
        check(told, "frogs", real.frogs(shelf, from, n), model.frogs(shelf, from, n), shelf, from, n);
    }

    private static final class Girl {
        int place;
        int breath = 60;

        Girl copy() {
            Girl g = new Girl();
            g.place = place;
            g.breath = breath;
            return g;
        }
    }

    private static final class Frog {
        int place;
        int keeps;
        int owes = -1;
        int held;

        Frog copy() {
            Frog f = new Frog();
            f.place = place;
            f.keeps = keeps;
            f.owes = owes;
            f.held = held;
            return f;
        }
    }

    /** The document once more, by copies of all and by trying all. */
    private static final class Model {
        private static final int BAD = -1, NOT = -2, FULL = -3, STATE = -5, VOID = -2000000000;
        List<Girl> girls = new ArrayList<>();
        List<Frog> frogs = new ArrayList<>();
        int two = 5;
        int hour;
        int[] led = new int[5];
        String law;
        String tape = "";
        List<int[]> undone = new ArrayList<>();
        List<int[]> changes = new ArrayList<>();
        Model image;
        List<Integer> bodies = new ArrayList<>();
        List<Integer> ran = new ArrayList<>();
        Object[] shelves = new Object[6];
        int lastGiven;

        Model copy() {
            Model m = new Model();
            for (Girl g : girls) {
                m.girls.add(g.copy());
            }
            for (Frog f : frogs) {
                m.frogs.add(f.copy());
            }
            m.two = two;
            m.hour = hour;
            m.led = led.clone();
            m.law = law;
            return m;
        }

        boolean girlThere(int g) {
            return g >= 0 && g < girls.size();
        }

        boolean frogThere(int f) {
            return f >= 0 && f < frogs.size();
        }

        boolean pair(int gf) {
            return gf >= 0 && girlThere(gf / 10) && frogThere(gf % 10);
        }

        int girl(int place) {
            if (place < 0 || place > 35) {
                return BAD;
            }
            if (girls.size() == 8) {
                return FULL;
            }
            Girl g = new Girl();
            g.place = place;
            girls.add(g);
            return girls.size() - 1;
        }

        int frog(int place, int keeps) {
            if (place < 0 || place > 35 || keeps < 0 || keeps > 9) {
                return BAD;
            }
            if (frogs.size() == 8) {
                return FULL;
            }
            Frog f = new Frog();
            f.place = place;
            f.keeps = keeps;
            frogs.add(f);
            return frogs.size() - 1;
        }

        int frogs(int shelf, int i, int n) {
            if (shelf < 0 || shelf > 5 || n < 1 || n > 8) {
                return BAD;
            }
            if (shelves[shelf] == null) {
                return 0;
            }
            if (!(shelves[shelf] instanceof byte[])) {
                return -12;
            }
            byte[] row = (byte[]) shelves[shelf];
            for (int k = 0; k < n; k++) {
                long at = i + 4L * k;
                if (at < 0 || at + 3 >= row.length || frogs.size() == 8) {
                    return k;
                }
                int a = (int) at;
                int owes = row[a + 2];
                boolean so = row[a] >= 0 && row[a] <= 35 && row[a + 1] >= 0 && row[a + 1] <= 9
                        && (owes == -1 || girlThere(owes)) && row[a + 3] >= 0 && row[a + 3] <= 99;
                if (!so) {
                    return k;
                }
                Frog f = frogs.get(frog(row[a], row[a + 1]));
                f.owes = owes;
                f.held = row[a + 3];
            }
            return n;
        }

        int of(int number, int what) {
            if (what == 0 || what == 1) {
                return !girlThere(number) ? VOID : what == 0 ? girls.get(number).place : girls.get(number).breath;
            }
            if (what >= 2 && what <= 5) {
                if (!frogThere(number)) {
                    return VOID;
                }
                Frog f = frogs.get(number);
                return what == 2 ? f.place : what == 3 ? f.keeps : what == 4 ? f.owes : f.held;
            }
            return number != 0 ? VOID : what == 6 ? two : what == 7 ? hour : VOID;
        }

        void set(int number, int what, int v) {
            if (what == 0) {
                girls.get(number).place = v;
            } else if (what == 1) {
                girls.get(number).breath = v;
            } else if (what == 2) {
                frogs.get(number).place = v;
            } else if (what == 3) {
                frogs.get(number).keeps = v;
            } else if (what == 4) {
                frogs.get(number).owes = v;
            } else if (what == 5) {
                frogs.get(number).held = v;
            } else if (what == 6) {
                two = v;
            } else {
                hour = v;
            }
        }

        int mend(int number, int what, int v) {
            int was = of(number, what);
            int[] most = {35, 99, 35, 9, girls.size() - 1, 99, 11, 11};
            if (was == VOID || v < (what == 4 ? -1 : 0) || v > most[what]) {
                return VOID;
            }
            if (was != v) {
                set(number, what, v);
                changes.add(new int[] {number, what, was, v});
                undone.clear();
                if (changes.size() > 40) {
                    changes.remove(0);
                }
            }
            return was;
        }

        int undo() {
            if (changes.isEmpty()) {
                return STATE;
            }
            int[] c = changes.remove(changes.size() - 1);
            undone.add(c);
            set(c[0], c[1], c[2]);
            return changes.size();
        }

        int redo() {
            if (undone.isEmpty()) {
                return STATE;
            }
            int[] c = undone.remove(undone.size() - 1);
            changes.add(c);
            set(c[0], c[1], c[3]);
            return undone.size();
        }

        int feed(int letter) {
            if (letter < 0 || letter > 255) {
                return BAD;
            }
            if (tape.length() == 120) {
                return FULL;
            }
            tape += (char) letter;
            return tape.length();
        }

        int law() {
            int fault = fault(tape);
            if (fault < 0) {
                law = tape;
            }
            tape = "";
            return fault < 0 ? 1 : -100 - fault;
        }

        /** By a stack of what is open, byte by byte. */
        static int fault(String text) {
            StringBuilder open = new StringBuilder();
            boolean wanted = true;
            boolean asked = false;
            boolean compared = false;
            int digits = 0;
            for (int i = 0; i < text.length(); i++) {
                char c = text.charAt(i);
                if (wanted) {
                    if (c == '(' || c == '!' || c == '-') {
                        if (open.length() == 6) {
                            return i;
                        }
                        // a closed bracket gives back whether its line had compared: C for one that had
                        open.append(c == '(' && compared ? 'C' : c);
                        compared = c != '(' && compared;
                        continue;
                    }
                    boolean digit = c >= '0' && c <= '9';
                    if (!digit && "bkdhgf".indexOf(c) < 0) {
                        return i;
                    }
                    digits = digit ? 1 : 4;
                    wanted = false;
                    shut(open);
                } else if (c >= '0' && c <= '9') {
                    if (digits >= 4) {
                        return i;
                    }
                    digits++;
                } else if (c == ')') {
                    if (open.length() == 0) {
                        return i;
                    }
                    compared = open.charAt(open.length() - 1) == 'C';
                    open.setLength(open.length() - 1);
                    shut(open);
                    digits = 4;
                } else if ("+-*/%<=>&|?;".indexOf(c) < 0) {
                    return i;
                } else {
                    boolean comparing = "<=>".indexOf(c) >= 0;
                    boolean outer = c == '?' || c == ';';
                    if (comparing && compared || outer && open.length() > 0 || c == '?' && asked) {
                        return i;
                    }
                    compared = comparing || compared && "+-*/%".indexOf(c) >= 0;
                    asked = c == '?' || asked && c != ';';
                    wanted = true;
                }
            }
            return !wanted && open.length() == 0 ? -1 : text.length();
        }

        private static void shut(StringBuilder open) {
            while (open.length() > 0 && "!-".indexOf(open.charAt(open.length() - 1)) >= 0) {
                open.setLength(open.length() - 1);
            }
        }

        int lossOf(int f) {
            Frog frog = frogs.get(f);
            if (frog.owes < 0) {
                return 0;
            }
            int told = frog.keeps + hour / 4;
            if (law != null) {
                told = 0;
                for (String line : law.split(";")) {
                    int ask = line.indexOf('?');
                    if (ask < 0 || value(line.substring(0, ask), f) != 0) {
                        told = value(line.substring(ask + 1), f);
                        break;
                    }
                }
            }
            return Math.min(frog.held, Math.max(0, Math.min(20, told)));
        }

        /** By the last of the loosest signs, from the right. */
        int value(String text, int f) {
            for (String signs : new String[] {"|", "&", "<=>", "+-", "*/%"}) {
                int deep = 0;
                for (int i = text.length() - 1; i > 0; i--) {
                    char c = text.charAt(i);
                    deep += c == ')' ? 1 : c == '(' ? -1 : 0;
                    boolean behindOperand = ")bkdhgf0123456789".indexOf(text.charAt(i - 1)) >= 0;
                    if (deep == 0 && signs.indexOf(c) >= 0 && behindOperand) {
                        return joined(c, value(text.substring(0, i), f), value(text.substring(i + 1), f));
                    }
                }
            }
            Frog frog = frogs.get(f);
            switch (text.charAt(0)) {
                case '(':
                    return value(text.substring(1, text.length() - 1), f);
                case '!':
                    return value(text.substring(1), f) == 0 ? 1 : 0;
                case '-':
                    return -value(text.substring(1), f);
                case 'b':
                    return frog.held;
                case 'k':
                    return frog.keeps;
                case 'd':
                    return far(frog.place, girls.get(frog.owes).place);
                case 'h':
                    return hour;
                case 'g':
                    return frog.owes;
                case 'f':
                    return f;
                default:
                    return Integer.parseInt(text);
            }
        }

        static int joined(char sign, int a, int b) {
            boolean so = sign == '|' ? a != 0 || b != 0 : sign == '&' ? a != 0 && b != 0 : sign == '<' ? a < b
                    : sign == '=' ? a == b : sign == '>' && a > b;
            switch (sign) {
                case '+':
                    return a + b;
                case '-':
                    return a - b;
                case '*':
                    return a * b;
                case '/':
                    return b == 0 ? 0 : a / b;
                case '%':
                    return b == 0 ? 0 : a % b;
                default:
                    return so ? 1 : 0;
            }
        }

        static int far(int a, int b) {
            return Math.abs(a / 6 - b / 6) + Math.abs(a % 6 - b % 6);
        }

        int loses(int f) {
            return frogThere(f) ? lossOf(f) : BAD;
        }

        int hour() {
            int backs = 0;
            for (int i = 0; i < frogs.size(); i++) {
                Frog f = frogs.get(i);
                if (f.owes < 0) {
                    continue;
                }
                int loss = lossOf(i);
                f.held -= loss;
                led[2] += loss;
                if (hour < two) {
                    continue;
                }
                Girl g = girls.get(f.owes);
                if (f.place % 6 < g.place % 6) {
                    f.place++;
                } else if (f.place % 6 > g.place % 6) {
                    f.place--;
                } else if (f.place < g.place) {
                    f.place += 6;
                } else if (f.place > g.place) {
                    f.place -= 6;
                }
                if (f.place == g.place) {
                    g.breath = Math.min(99, g.breath + f.held);
                    lastGiven = f.held;
                    f.owes = -1;
                    f.held = 0;
                    backs++;
                }
            }
            led[3] += backs;
            led[0]++;
            hour = (hour + 1) % 12;
            return backs;
        }

        Model behind(int n) {
            Model m = copy();
            for (int i = 0; i < n; i++) {
                m.hour();
            }
            return m;
        }

        int later(int n, int number, int what) {
            if (n < 0 || n > 40 || what < 0 || what > 3) {
                return VOID;
            }
            int[] as = {5, 2, 4, 1};
            return behind(n).of(number, as[what]);
        }

        int marsh(int n, int what) {
            if (n < 0 || n > 40 || what < 0 || what > 1) {
                return BAD;
            }
            int bits = 0;
            int held = 0;
            Model m = behind(n);
            for (int f = 0; f < m.frogs.size(); f++) {
                bits += m.frogs.get(f).owes >= 0 ? 1 << f : 0;
                held += m.frogs.get(f).held;
            }
            return what == 0 ? bits : held;
        }

        int backWhen(int frog) {
            if (frog != -1 && !frogThere(frog)) {
                return BAD;
            }
            for (int n = 0; n <= 40; n++) {
                int owing = marsh(n, 0);
                if (frog == -1 ? owing == 0 : (owing >> frog & 1) == 0) {
                    return n;
                }
            }
            return NOT;
        }

        /** By one frog alone: how much, behind how many. */
        int[] gives(int frog) {
            Model m = copy();
            for (int f = 0; f < m.frogs.size(); f++) {
                m.frogs.get(f).owes = f == frog ? m.frogs.get(f).owes : -1;
            }
            for (int n = 1; n <= 24; n++) {
                if (m.hour() == 1) {
                    return new int[] {m.lastGiven, n};
                }
            }
            return new int[] {NOT, NOT};
        }

        Model lent(int girl, int frog, int x) {
            Model m = copy();
            m.frogs.get(frog).owes = girl;
            m.frogs.get(frog).held = x;
            return m;
        }

        int loan(int gf, int x, int what) {
            if (!pair(gf) || x < 1 || x > 99 || what < 0 || what > 1) {
                return BAD;
            }
            return lent(gf / 10, gf % 10, x).gives(gf % 10)[what];
        }

        int best(int girl, int x, int what) {
            if (!girlThere(girl) || x < 1 || x > 99 || what < 0 || what > 1) {
                return BAD;
            }
            int[] best = {NOT, NOT};
            for (int f = frogs.size() - 1; f >= 0; f--) {
                int much = loan(10 * girl + f, x, 0);
                if (much >= 0 && much >= best[1]) {
                    best = new int[] {f, much};
                }
            }
            return best[what];
        }

        int dealt(int x, int girl) {
            if (x < 1 || x > 99 || girl != -1 && !girlThere(girl)) {
                return BAD;
            }
            int[][] much = new int[girls.size()][frogs.size()];
            for (int g = 0; g < girls.size(); g++) {
                for (int f = 0; f < frogs.size(); f++) {
                    much[g][f] = loan(10 * g + f, x, 0);
                }
            }
            int[] best = new int[9];
            best[8] = -1;
            deal(much, 0, new int[8], 0, 0, best);
            return girl == -1 ? best[8] : best[girl];
        }

        /** Tries all dealings, the first by girls first, none last; best[8] is how much. */
        private void deal(int[][] much, int g, int[] to, int taken, int sum, int[] best) {
            if (g == much.length) {
                if (sum > best[8]) {
                    System.arraycopy(to, 0, best, 0, 8);
                    best[8] = sum;
                }
                return;
            }
            for (int f = 0; f < frogs.size(); f++) {
                if ((taken >> f & 1) == 0 && much[g][f] > 0) {
                    to[g] = f;
                    deal(much, g + 1, to, taken | 1 << f, sum + much[g][f], best);
                }
            }
            to[g] = 9;
            deal(much, g + 1, to, taken, sum, best);
        }

        int least(int gf, int nv) {
            if (!pair(gf) || nv < 0 || nv > 209) {
                return BAD;
            }
            for (int x = 1; x <= 99; x++) {
                int held = lent(gf / 10, gf % 10, x).later(nv / 10, gf % 10, 0);
                if (held / 10 >= nv % 10) {
                    return x;
                }
            }
            return NOT;
        }

        int bars(int told, int n) {
            if (told < 0 || told >= 1 << frogs.size() || n < -1 || n > 9999) {
                return BAD;
            }
            int together = 1;
            int beginning = 0;
            for (int f = 0; f < frogs.size(); f++) {
                if ((told >> f & 1) == 1) {
                    int bar = frogs.get(f).keeps + 1;
                    int a = together;
                    while (together % bar != 0) {
                        together += a;
                    }
                    beginning += n % bar == 0 ? 1 : 0;
                }
            }
            return n == -1 ? together : beginning;
        }

        int stops(int x, int what) {
            if (x < 0 || x > 10 || what < 0 || what > 1) {
                return BAD;
            }
            for (int many = 0; many <= 8; many++) {
                for (int bits = 0; bits < 1 << frogs.size(); bits++) {
                    if (Integer.bitCount(bits) == many && heard(bits, x)) {
                        return what == 0 ? many : bits;
                    }
                }
            }
            return VOID;
        }

        boolean heard(int bits, int x) {
            int all = 0;
            for (int s = 0; s < frogs.size(); s++) {
                for (int f = 0; f < frogs.size(); f++) {
                    boolean near = far(frogs.get(s).place, frogs.get(f).place) <= x;
                    all |= (bits >> s & 1) == 1 && near ? 1 << f : 0;
                }
            }
            return all == (1 << frogs.size()) - 1;
        }

        int bookRefusal(int shelf, int frog) {
            if (shelf < 0 || shelf > 5 || !frogThere(frog)) {
                return BAD;
            }
            return shelves[shelf] == null ? -11 : shelves[shelf] instanceof byte[] ? 0 : -12;
        }

        int judge(int shelf, int frog) {
            int refusal = bookRefusal(shelf, frog);
            if (refusal != 0) {
                return refusal;
            }
            byte[] row = (byte[]) shelves[shelf];
            for (int i = 0; i < row.length && i <= 40; i++) {
                if (row[i] != 100 && row[i] != later(i, frog, 0)) {
                    return i;
                }
            }
            return NOT;
        }

        int fits(int shelf, int frog, int what) {
            if (what < 0 || what > 1) {
                return BAD;
            }
            int refusal = bookRefusal(shelf, frog);
            if (refusal != 0) {
                return refusal;
            }
            int bits = 0;
            for (int v = what == 0 ? 0 : -1; v < (what == 0 ? 10 : girls.size()); v++) {
                Model m = copy();
                m.shelves[shelf] = shelves[shelf];
                m.set(frog, what == 0 ? 3 : 4, v);
                bits |= m.judge(shelf, frog) != NOT ? 0 : v == -1 ? 256 : 1 << v;
            }
            return bits;
        }

        int alike() {
            int pairs = 0;
            for (int a = 0; a < frogs.size(); a++) {
                for (int b = a + 1; b < frogs.size(); b++) {
                    boolean same = true;
                    for (int n = 0; n <= 12; n++) {
                        Model m = behind(n);
                        same &= m.frogs.get(a).held == m.frogs.get(b).held;
                    }
                    pairs += same ? 1 : 0;
                }
            }
            return pairs;
        }

        int ring(int girl) {
            if (!girlThere(girl)) {
                return BAD;
            }
            if (girls.size() == 1) {
                return NOT;
            }
            List<Integer> way = new ArrayList<>();
            while (!way.contains(girl)) {
                way.add(girl);
                int nearest = -1;
                for (int g = girls.size() - 1; g >= 0; g--) {
                    boolean nearer = nearest < 0 || far(girls.get(g).place, girls.get(girl).place)
                            <= far(girls.get(nearest).place, girls.get(girl).place);
                    nearest = g != girl && nearer ? g : nearest;
                }
                girl = nearest;
            }
            return way.size() - way.indexOf(girl);
        }

        int byTurns(int frog, int n, int what) {
            if (!frogThere(frog) || n < 1 || n > 5 || what < 0 || what > 1) {
                return BAD;
            }
            Model doing = copy();
            doing.two = Math.max(0, two - 1);
            int does = doing.playedOn(frog, n, 1);
            int not = copy().playedOn(frog, n, 1);
            return what == 0 ? Math.max(does, not) : does > not ? 1 : 0;
        }

        private int playedOn(int frog, int n, int turn) {
            if (turn == n) {
                return Math.max(0, gives(frog)[0]);
            }
            Model doing = copy();
            if (turn % 2 == 0) {
                doing.two = Math.max(0, two - 1);
            } else {
                doing.frogs.get(frog).keeps = Math.min(9, frogs.get(frog).keeps + 1);
            }
            int does = doing.playedOn(frog, n, turn + 1);
            int not = copy().playedOn(frog, n, turn + 1);
            return turn % 2 == 0 ? Math.max(does, not) : Math.min(does, not);
        }

        int drawn(int seed, int nmc, int girl) {
            int junes = Math.floorDiv(nmc, 10000);
            int hours = Math.floorMod(nmc, 10000) / 100;
            int carts = Math.floorMod(nmc, 100);
            boolean so = junes >= 1 && junes <= 30 && hours >= 1 && hours <= 40 && (girl == -1 || girlThere(girl));
            if (!so) {
                return BAD;
            }
            int z = seed;
            int sum = 0;
            for (int june = 0; june < junes; june++) {
                Model m = copy();
                for (int i = 0; i < hours; i++) {
                    z = z * 1103515245 + 12345;
                    if (!frogs.isEmpty() && (z >>> 16) % 100 < carts) {
                        m.over((z >>> 8) % frogs.size());
                    }
                    m.hour();
                }
                sum += girl == -1 ? Integer.bitCount(m.marsh(0, 0)) : m.girls.get(girl).breath;
            }
            return sum;
        }

        int lends(int gf, int x) {
            if (!pair(gf) || x < 1 || x > 99) {
                return BAD;
            }
            Girl g = girls.get(gf / 10);
            Frog f = frogs.get(gf % 10);
            if (f.owes >= 0 || g.breath < x) {
                return STATE;
            }
            f.owes = gf / 10;
            f.held = x;
            g.breath -= x;
            led[1]++;
            return g.breath;
        }

        int over(int frog) {
            if (!frogThere(frog)) {
                return BAD;
            }
            Frog f = frogs.get(frog);
            if (f.owes < 0) {
                return STATE;
            }
            int was = f.held;
            f.owes = -1;
            f.held = 0;
            led[4]++;
            return was;
        }

        int led(int what) {
            return what < 0 || what > 4 ? BAD : led[what];
        }

        int image() {
            image = copy();
            return led[0];
        }

        int back() {
            if (image == null) {
                return STATE;
            }
            for (int g = 0; g < image.girls.size(); g++) {
                girls.get(g).breath = image.girls.get(g).breath;
            }
            for (int f = 0; f < image.frogs.size(); f++) {
                int keeps = frogs.get(f).keeps;
                frogs.set(f, image.frogs.get(f).copy());
                frogs.get(f).keeps = keeps;
            }
            hour = image.hour;
            led = image.led.clone();
            return led[0];
        }

        int body(int kind) {
            if (kind < 0 || kind > 7) {
                return BAD;
            }
            if (bodies.size() == 50) {
                return FULL;
            }
            bodies.add(kind);
            return bodies.size() - 1;
        }

        private static final int[] ABOVE = {-1, 0, 0, 2, 1, 3, 0, 4};

        int act(int body, int act, int x) {
            ran.clear();
            return body < 0 || body >= bodies.size() || act < 0 || act > 3 ? 0 : run(bodies.get(body), act, x, body);
        }

        /** The body of an act for a kind, or of the next above that has one. */
        private int run(int kind, int act, int x, int n) {
            int[][] at = {{1, 10, 11, 2}, {20, 0, 0, 0}, {0, 30, 0, 0}, {0, 41, 40, 0}, {0, 0, 50, 0}, {0, 0, 0, 60},
                    {70, 0, 0, 0}, {0, 80, 0, 81}};
            int k = kind;
            while (at[k][act] == 0) {
                k = ABOVE[k];
            }
            int own = bodies.get(n);
            int up = ABOVE[k];
            ran.add(at[k][act]);
            switch (at[k][act]) {
                case 1:
                    return x + n;
                case 10:
                    return run(own, 0, x, n) * 2;
                case 11:
                    return x ^ n;
                case 2:
                    return run(own, 1, x, n) - run(own, 2, 1, n);
                case 20:
                    return run(up, 0, x, n) + 3;
                case 30:
                    return -run(up, 1, x, n);
                case 40:
                    return run(up, 2, x, n) * 3;
                case 41:
                    return run(up, 1, x + 1, n);
                case 50:
                    return run(up, 2, x, n) - run(own, 0, 2, n);
                case 60:
                    return run(up, 3, x, n) ^ 5;
                case 70:
                    return run(up, 0, x, n) * 2;
                case 80:
                    return run(up, 1, x, n) + run(own, 2, 2, n);
                default:
                    return run(up, 3, x, n) - 1;
            }
        }

        int trace(int i) {
            return i < 0 || i >= ran.size() || i > 23 ? BAD : ran.get(i);
        }

        int keep(int shelf, int body) {
            if (shelf < 0 || shelf > 5 || body < -1 || body >= bodies.size()) {
                return BAD;
            }
            shelves[shelf] = body == -1 ? null : bodies.get(body);
            return 1;
        }

        int taken(int shelf, int k) {
            if (shelf < 0 || shelf > 5 || k < 0 || k > 7) {
                return BAD;
            }
            if (!(shelves[shelf] instanceof Integer)) {
                return shelves[shelf] == null ? -11 : -12;
            }
            int kind = (Integer) shelves[shelf];
            for (int at = kind; at >= 0; at = ABOVE[at]) {
                if (at == k) {
                    return kind;
                }
            }
            return -12;
        }

        int row(int shelf, int sort, int n) {
            if (shelf < 0 || shelf > 5 || sort < 0 || sort > 4 || n > 60) {
                return BAD;
            }
            if (n < 0) {
                return -14;
            }
            shelves[shelf] = sort == 0 ? new byte[n] : sort == 1 ? new short[n] : sort == 2 ? new int[n]
                    : sort == 3 ? new long[n] : new boolean[n];
            return 1;
        }

        private long refusal(int shelf, int i) {
            if (shelf < 0 || shelf > 5) {
                return BAD;
            }
            if (shelves[shelf] == null) {
                return -11;
            }
            if (shelves[shelf] instanceof Integer) {
                return -12;
            }
            return i < 0 || i >= java.lang.reflect.Array.getLength(shelves[shelf]) ? -13 : 0;
        }

        int put(int shelf, int i, long v) {
            if (refusal(shelf, i) != 0) {
                return (int) refusal(shelf, i);
            }
            Object row = shelves[shelf];
            if (row instanceof byte[]) {
                ((byte[]) row)[i] = (byte) v;
            } else if (row instanceof short[]) {
                ((short[]) row)[i] = (short) v;
            } else if (row instanceof int[]) {
                ((int[]) row)[i] = (int) v;
            } else if (row instanceof long[]) {
                ((long[]) row)[i] = v;
            } else {
                ((boolean[]) row)[i] = v != 0;
            }
            return 1;
        }

        long element(int shelf, int i) {
            if (refusal(shelf, i) != 0) {
                return Long.MIN_VALUE;
            }
            Object row = shelves[shelf];
            if (row instanceof boolean[]) {
                return ((boolean[]) row)[i] ? 1 : 0;
            }
            return java.lang.reflect.Array.getLong(row, i);
        }

        int shift(int shelf, int i, int other, int j, int n) {
            if (shelf < 0 || shelf > 5 || other < 0 || other > 5) {
                return BAD;
            }
            Object from = shelves[shelf];
            Object to = shelves[other];
            if (from == null || to == null) {
                return -11;
            }
            if (from instanceof Integer || from.getClass() != to.getClass()) {
                return -12;
            }
            try {
                System.arraycopy(from, i, to, j, n);
                return n;
            } catch (IndexOutOfBoundsException e) {
                return -13;
            }
        }

        int count(int what) {
            int[] all = {girls.size(), frogs.size(), tape.length(), changes.size(), bodies.size(), ran.size()};
            return what < 0 || what > 5 ? BAD : all[what];
        }
    }
}
