/** THE LAW, sentence by sentence: what just is a TEXT, what just isn't, and what it gives. */
public final class LawTests extends Checks {
    private static final String SIGNS = "|&<=>+-*/%", NAMES = "bkdhgf", DIGITS = "0123456789", AHEAD = "!-(";

    public static void main(String[] args) {
        tape();
        lines();
        asking();
        levels();
        numbers();
        ahead();
        letters();
        names();
        open();
        wraps();
        parts();
        truths();
        whichCounts();
        faults();
        heldWithin();
        withoutText();
        laid();
        finish();
    }

    /** Frog 2 at 35 keeps 4 and holds 50 of girl 1, who is at 15; HOUR 7; a girl and two frogs are ahead of them. */
    private static void atSeven() {
        x = new FrogBreath();
        x.girl(0);
        x.girl(15);
        x.frog(0, 0);
        x.frog(0, 0);
        x.frog(35, 4);
        x.mend(2, OWES, 1);
        x.mend(2, HELD, 50);
        x.mend(0, HOUR, 7);
    }

    private static void gives(String text, int want) {
        atSeven();
        due("law of " + text, lawOf(text), 1);
        due(text, x.loses(2), want);
    }

    private static void fault(String text, int place) {
        x = new FrogBreath();
        due("law of " + text, lawOf(text), -100 - place);
    }

    private static void tape() {
        told("THE LAW is a TEXT by THE TAPE (at most 120 bytes)");
        atSeven();
        feedAll(x, "1+".repeat(59) + "1");
        due("119 bytes", x.count(2), 119);
        due("the 120th", x.feed('9'), 120);
        due("one more", x.feed('9'), FULL);
        due("one more, too high", x.feed(256), BAD);
        due("120 bytes", x.count(2), 120);
        due("all 120 are a law", x.law(), 1);
        due("none is left", x.count(2), 0);
        due("120 may come again", x.feed('9'), 1);
        gives("-9" + "+1".repeat(16) + "+0".repeat(43), 7);
        gives("+1".repeat(59).substring(1) + "-52", 7);
        gives("-0?1" + "+1".repeat(58), 0);
        gives("-1?1" + "+0".repeat(58), 1);
        gives("0|1&0<1+1*(".repeat(6) + "1" + ")".repeat(6), 1);
        fault("1+".repeat(60), 120);
        fault("1+".repeat(59) + "1)", 119);
    }

    private static void lines() {
        told("LINES, one or more, parted by ;");
        fault("", 0);
        fault(";", 0);
        fault("1;", 2);
        fault(";1", 0);
        fault("1;;2", 2);
        gives("3", 3);
        gives("3;4", 3);
        gives("0?3;4", 4);
        gives("9;".repeat(59) + "8", 9);
        gives("0?1;".repeat(29) + "1?7", 7);
        gives("0?1;".repeat(29) + "12", 12);
        fault("1;".repeat(60), 120);
    }

    private static void asking() {
        told("LINE: E, or E ? E (what counts if the first is not 0)");
        gives("1?3", 3);
        gives("2?3", 3);
        gives("0-1?3", 3);
        gives("0?3", 0);
        gives("0|1?3&1+4", 1);
        gives("3?0", 0);
        fault("?1", 0);
        fault("1?", 2);
        fault("1??2", 2);
        fault("1?;2", 2);
        fault("1?2?3", 3);
        fault("0?1;1?2?3", 7);
        fault("(1?2)", 2);
        fault("1?(2?3)", 4);
        fault("1?(2;3)", 4);
    }

    /** Any two signs: the tighter one joins first, of like ones the first; of < = > there is one at most. */
    private static void levels() {
        told("E = A { | A }. A = B { & B }. B = S, or S < S, S = S, S > S. S = P { + P, - P }. P = O { * O, / O, % O "
                + "}.");
        for (char first : SIGNS.toCharArray()) {
            for (char second : SIGNS.toCharArray()) {
                for (int abc = 0; abc < 27; abc++) {
                    twoSigns(first, second, abc / 9, abc / 3 % 3, abc % 3);
                }
            }
        }
        gives("(1<2)<3", 1);
        gives("1<(2<3)", 0);
        gives("1<2&2<3", 1);
        gives("1<2|2<3", 1);
        gives("3<2|2=2", 1);
        fault("1<2+1>0", 5);
        fault("1|2<3=1", 5);
        fault("(1<2=3)", 4);
        gives("20-5-3", 12);
        gives("16/4/2", 2);
        gives("16%9%4", 3);
        gives("5-3+2", 4);
        gives("0&0|1", 1);
        gives("0&(0|1)", 0);
    }

    private static void twoSigns(char first, char second, int a, int b, int c) {
        String text = "(" + a + first + b + second + c + ")+9";
        if (rank(first) == 2 && rank(second) == 2) {
            fault(text, 4);
            return;
        }
        boolean left = rank(first) >= rank(second);
        int all = left ? joined(second, joined(first, a, b), c) : joined(first, a, joined(second, b, c));
        gives(text, 9 + all);
    }

    private static int rank(char sign) {
        return "|".indexOf(sign) >= 0 ? 0 : "&".indexOf(sign) >= 0 ? 1 : "<=>".indexOf(sign) >= 0 ? 2
                : "+-".indexOf(sign) >= 0 ? 3 : 4;
    }

    private static int joined(char sign, int a, int b) {
        switch (sign) {
            case '+':
                return a + b;
            case '-':
                return a - b;
            case '*':
                return a * b;
            case '/':
                return b == 0 ? 0 : a / b;
            case '%':
                return b == 0 ? 0 : a % b;
            default:
                boolean so = sign == '|' ? a != 0 || b != 0 : sign == '&' ? a != 0 && b != 0 : sign == '<' ? a < b
                        : sign == '=' ? a == b : a > b;
                return so ? 1 : 0;
        }
    }

    private static void numbers() {
        told("a number (1 to 4 digits)");
        gives("7", 7);
        gives("07", 7);
        gives("007", 7);
        gives("0007", 7);
        gives("0000", 0);
        gives("9999-9990", 9);
        gives("1234-1229", 5);
        fault("12345", 4);
        fault("00007", 4);
        fault("1+12345", 6);
        fault("1234b", 4);
        fault("1b", 1);
        fault("b1", 1);
    }

    private static void ahead() {
        told("! O, - O, ( E )");
        gives("-(-7)", 7);
        gives("9--3", 12);
        gives("2*-3+9", 3);
        gives("-2*-3", 6);
        gives("!!7", 1);
        gives("!-7+2", 2);
        gives("-!0+2", 1);
        gives("!0*7", 7);
        gives("2*!0+9", 11);
        gives("(1|0)*7", 7);
        gives("((3))", 3);
        gives("-(2-9)", 7);
        fault("()", 1);
        fault("(", 1);
        fault("!", 1);
        fault("-", 1);
        fault("(1", 2);
        fault("((1)", 4);
        fault("1)", 1);
        fault("(1))", 3);
        fault("1!", 1);
        fault("1(2)", 1);
        fault("(1)(2)", 3);
        fault("(1)2", 3);
        fault("+1", 0);
        fault("1+*2", 2);
        fault("1&&2", 2);
        fault("1||2", 2);
        fault("1=>2", 2);
    }

    /** Every byte, wherever a byte may come. */
    private static void letters() {
        told("No blanks. NAMES: b HELD, k KEEPS, d how FAR the GIRL is, h HOUR, g the GIRL, f the FROG.");
        String[] wanted = {"", "1+", "1*", "1<", "1&", "1|", "1?", "1;", "1?2;"};
        for (String text : wanted) {
            behind(text, DIGITS + NAMES, AHEAD);
        }
        behind("(", "", DIGITS + NAMES + AHEAD);
        behind("!", DIGITS + NAMES, AHEAD);
        behind("-", DIGITS + NAMES, AHEAD);
        behind("1", DIGITS, SIGNS + "?;");
        behind("123", DIGITS, SIGNS + "?;");
        behind("1234", "", SIGNS + "?;");
        behind("b", "", SIGNS + "?;");
        behind("(1)", "", SIGNS + "?;");
        behind("(b", ")", SIGNS);
        behind("((b", "", SIGNS + ")");
        behind("b<b", "", "|&+-*/%?;");
        behind("b<b+b", "", "|&+-*/%?;");
        behind("b<b&b", "", SIGNS + "?;");
        behind("b?b", "", SIGNS + ";");
        behind("b?b;b", "", SIGNS + "?;");
        behind("(b)?(b", ")", SIGNS);
    }

    /** Of all bytes these end a text behind another, these go on with it, and no others. */
    private static void behind(String text, String ends, String goesOn) {
        for (int letter = 0; letter < 256; letter++) {
            x = new FrogBreath();
            feedAll(x, text);
            x.feed(letter);
            int want = ends.indexOf(letter) >= 0 ? 1 : -100 - text.length() - (goesOn.indexOf(letter) >= 0 ? 1 : 0);
            due("law of " + text + " and byte " + letter, x.law(), want);
        }
    }

    private static void names() {
        told("NAMES: b HELD, k KEEPS, d how FAR the GIRL is, h HOUR, g the GIRL, f the FROG.");
        gives("b/5", 10);
        gives("k", 4);
        gives("d", 5);
        gives("h", 7);
        gives("g", 1);
        gives("f", 2);
        gives("b-49", 1);
        x = new FrogBreath();
        for (int i = 0; i < 8; i++) {
            x.girl(i);
            x.frog(i, i);
            x.mend(i, HELD, 90 + i);
        }
        for (int i = 0; i < 8; i++) {
            x.mend(7 - i, OWES, i);
        }
        lawOf("b-90");
        for (int f = 0; f < 8; f++) {
            due("b of frog " + f, x.loses(f), f);
        }
        lawOf("k");
        for (int f = 0; f < 8; f++) {
            due("k of frog " + f, x.loses(f), f);
        }
        lawOf("f");
        for (int f = 0; f < 8; f++) {
            due("f of frog " + f, x.loses(f), f);
        }
        lawOf("g");
        for (int f = 0; f < 8; f++) {
            due("g of frog " + f, x.loses(f), 7 - f);
        }
        lawOf("h");
        for (int h = 0; h < 12; h++) {
            x.mend(0, HOUR, h);
            due("h at " + h, x.loses(h % 8), h);
        }
    }

    /** Six of them, in any order, may be open; a seventh, of any kind, may not. */
    private static void open() {
        told("At most 6 of ( ! - ahead of an O are open at once.");
        for (int which = 0; which < 729; which++) {
            StringBuilder six = new StringBuilder();
            StringBuilder shut = new StringBuilder();
            for (int i = 0, left = which; i < 6; i++, left /= 3) {
                six.append(AHEAD.charAt(left % 3));
                shut.append(left % 3 == 2 ? ")" : "");
            }
            x = new FrogBreath();
            due("six open: " + six, lawOf(six + "1" + shut), 1);
            due("six open, a name: " + six, lawOf(six + "b" + shut), 1);
            for (char seventh : AHEAD.toCharArray()) {
                due("seven open: " + six + seventh, lawOf(six.toString() + seventh + "1" + shut), -106);
            }
        }
        gives("((((((7))))))", 7);
        gives("------7", 7);
        gives("!!!!!!7", 1);
        gives("((((((1-1-1-1+9))))))", 7);
        gives("((((((1))))))+((((((6))))))", 7);
        gives("!0+!!!!!!6", 2);
        gives("!1+------6", 6);
        gives("(((((!1+!0)))))", 1);
        gives("((((((1)+1))))+(((5))))", 7);
        fault("(((((!1+!!1)))))", 9);
        fault("((((((1)+((1", 10);
        fault("1+-!-!-!-1", 8);
        fault("1;-------1", 8);
        fault("1?-------1", 8);
    }

    private static void wraps() {
        told("Ints that wrap");
        gives("8192*8192*32-1>0", 1);
        gives("8192*8192*32<0", 1);
        gives("8192*8192*31>0", 1);
        gives("-(8192*8192*32)<0", 1);
        gives("8192*8192*32/-1<0", 1);
        gives("8192*8192*32%-1+5", 5);
        gives("8192*8192*64+5", 5);
        gives("8192*8192*32+8192*8192*32+5", 5);
        gives("8192*8192*32*3=8192*8192*32", 1);
        gives("0-8192*8192*32-1>0", 1);
        gives("9999*9999*9999<0", 1);
        gives("8192*8192*32", 0);
        gives("8192*8192*32-1", 20);
    }

    private static void parts() {
        told("/ and % toward 0, by 0 they give 0");
        gives("7/2", 3);
        gives("-7/2+9", 6);
        gives("7/-2+9", 6);
        gives("-7/-2", 3);
        gives("7%3", 1);
        gives("-7%3+9", 8);
        gives("7%-3+9", 10);
        gives("-7%-3+9", 8);
        gives("7/0+3", 3);
        gives("7%0+3", 3);
        gives("0/0+3", 3);
        gives("0%0+3", 3);
        gives("-7/(1-1)+3", 3);
        gives("7/1", 7);
        gives("7%1+3", 3);
        gives("6/7+3", 3);
        gives("6%7", 6);
    }

    private static void truths() {
        told("| & < = > ! give 1, 0");
        int[] numbers = {-7, -1, 0, 1, 7};
        for (int a : numbers) {
            gives("!" + a + "+5", a == 0 ? 6 : 5);
            for (int b : numbers) {
                for (char sign : "|&<=>".toCharArray()) {
                    gives("(" + a + sign + b + ")*2+5", joined(sign, a, b) * 2 + 5);
                }
            }
        }
    }

    private static void whichCounts() {
        told("The first LINE without a first E, or whose first E is not 0, counts; none: 0.");
        gives("0?1;2", 2);
        gives("1?3;2", 3);
        gives("0-1?3;2", 3);
        gives("0?1;0?2;6", 6);
        gives("0?1;4?5;6", 5);
        gives("4;5", 4);
        gives("0;5", 0);
        gives("1?0;5", 0);
        gives("0?1;4;1?5", 4);
        gives("0?3", 0);
        gives("0?3;0?4", 0);
        gives("k=4?d;7", 5);
        gives("k=5?d;7", 7);
    }

    /** Each beginning of a text is one too, or ends too early; a byte of none behind it is the fault. */
    private static void faults() {
        told("FAULT: the place (from 0) of the first byte with which no TEXT goes on; the length, if it ends too "
                + "early.");
        String text = "b>9&!(k=2|d<1234)?(h+1)*2--f/3%4;-((g))+!!0;7?08|1";
        for (int length = 0; length <= text.length(); length++) {
            String beginning = text.substring(0, length);
            x = new FrogBreath();
            int answer = lawOf(beginning);
            hold(beginning + ": 1, or too early", answer == 1 || answer == -100 - length);
            fault(beginning + "$", length);
            fault(beginning + "$" + text.substring(length), length);
            fault(beginning + " ", length);
        }
        x = new FrogBreath();
        due("all of it", lawOf(text), 1);
    }

    private static void heldWithin() {
        told("(held within 0 .. 20, and no more than HELD)");
        gives("19", 19);
        gives("20", 20);
        gives("21", 20);
        gives("9999", 20);
        gives("1", 1);
        gives("0", 0);
        gives("0-1", 0);
        gives("-9999", 0);
        atSeven();
        lawOf("9999");
        int[] holding = {0, 1, 19, 20, 21, 99};
        for (int held : holding) {
            x.mend(2, HELD, held);
            due("of " + held, x.loses(2), Math.min(20, held));
        }
        x.mend(2, OWES, -1);
        due("OWES nobody", x.loses(2), 0);
    }

    private static void withoutText() {
        told("Without a text: k, and h by 4 (cut).");
        for (int keeps = 0; keeps <= 9; keeps++) {
            x = new FrogBreath();
            x.girl(0);
            x.frog(0, keeps);
            x.mend(0, OWES, 0);
            for (int h = 0; h <= 11; h++) {
                x.mend(0, HOUR, h);
                x.mend(0, HELD, 99);
                due("KEEPS " + keeps + " at " + h, x.loses(0), keeps + (h < 4 ? 0 : h < 8 ? 1 : 2));
                x.mend(0, HELD, 1);
                due("of 1, KEEPS " + keeps + " at " + h, x.loses(0), keeps + h / 4 > 0 ? 1 : 0);
            }
        }
    }

    private static void laid() {
        told("THE TAPE becomes THE LAW: 1; -100 less its FAULT; THE TAPE is empty then.");
        atSeven();
        due("an empty tape", x.law(), -100);
        due("no law by it", x.loses(2), 5);
        due("a law", lawOf("3"), 1);
        due("it counts", x.loses(2), 3);
        due("the tape is empty", x.count(2), 0);
        due("an empty one is no law", x.law(), -100);
        due("the law stays", x.loses(2), 3);
        due("a fault", lawOf("9+"), -102);
        due("the tape is empty behind a fault", x.count(2), 0);
        due("the law stays behind a fault", x.loses(2), 3);
        due("a fault behind a line", lawOf("9;9)"), -103);
        due("the law stays behind that", x.loses(2), 3);
        due("what was fed ahead is gone", lawOf("11"), 1);
        due("another law", x.loses(2), 11);
        due("nothing is undone by it", x.undo(), 2);
        due("a law is no change", x.loses(2), 11);
    }
}
