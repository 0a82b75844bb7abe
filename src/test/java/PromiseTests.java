/** Each promise of the document by hand: ordinary calls, the edges it names, wrong arguments. */
public final class PromiseTests extends Checks {
    private static void begin(int number) {
        promise(number);
        x = new FrogBreath();
    }

    private static void promise(int number) {
        about = "promise " + number;
    }

    /** A girl at 0, a frog at place 8 (two off in X, one in Y) who keeps 3 and has 30 of hers. */
    private static void oneLoan(int number) {
        begin(number);
        x.girl(0);
        x.frog(8, 3);
        x.lends(0, 30);
    }

    public static void main(String[] args) {
        newObject();
        girl();
        frog();
        frogs();
        mend();
        of();
        feed();
        law();
        lawFaults();
        loses();
        later();
        marsh();
        backWhen();
        loan();
        best();
        dealt();
        least();
        bars();
        stops();
        judge();
        fits();
        alike();
        ring();
        byTurns();
        drawn();
        hour();
        lends();
        over();
        led();
        image();
        undo();
        redo();
        body();
        act();
        trace();
        keep();
        row();
        put();
        element();
        shift();
        taken();
        count();
        finish();
    }

    private static void newObject() {
        begin(1);
        for (int what = 0; what <= 5; what++) {
            due("count " + what, x.count(what), 0);
        }
        for (int what = 0; what <= 4; what++) {
            due("led " + what, x.led(what), 0);
        }
        due("TWO", x.of(0, 6), 5);
        due("HOUR", x.of(0, 7), 0);
        due("marsh", x.marsh(40, 0), 0);
        due("back", x.back(), STATE);
        due("undo", x.undo(), STATE);
        due("redo", x.redo(), STATE);
        due("trace", x.trace(0), BAD);
        for (int shelf = 0; shelf <= 5; shelf++) {
            due("shelf " + shelf, x.taken(shelf, 0), -11);
        }
    }

    private static void girl() {
        begin(2);
        due("place -1", x.girl(-1), BAD);
        due("place 36", x.girl(36), BAD);
        due("none came", x.count(0), 0);
        for (int g = 0; g < 8; g++) {
            due("girl " + g, x.girl(g * 5), g);
            due("PLACE", x.of(g, 0), g * 5);
            due("BREATH", x.of(g, 1), 60);
        }
        due("a ninth", x.girl(0), FULL);
        due("a wrong ninth", x.girl(36), BAD);
        due("eight", x.count(0), 8);
        begin(2);
        due("place 35", x.girl(35), 0);
        due("the same place", x.girl(35), 1);
    }

    private static void frog() {
        begin(3);
        due("place -1", x.frog(-1, 0), BAD);
        due("place 36", x.frog(36, 0), BAD);
        due("keeps -1", x.frog(0, -1), BAD);
        due("keeps 10", x.frog(0, 10), BAD);
        due("none came", x.count(1), 0);
        for (int f = 0; f < 8; f++) {
            due("frog " + f, x.frog(f * 5, 9 - f), f);
            due("PLACE", x.of(f, 2), f * 5);
            due("KEEPS", x.of(f, 3), 9 - f);
            due("OWES", x.of(f, 4), -1);
            due("HELD", x.of(f, 5), 0);
        }
        due("a ninth", x.frog(0, 0), FULL);
        due("a wrong ninth", x.frog(0, 10), BAD);
        due("eight", x.count(1), 8);
    }

    private static void frogs() {
        begin(4);
        x.girl(3);
        x.body(0);
        due("shelf -1", x.frogs(-1, 0, 1), BAD);
        due("shelf 6", x.frogs(6, 0, 1), BAD);
        due("n 0", x.frogs(0, 0, 0), BAD);
        due("n 9", x.frogs(0, 0, 9), BAD);
        due("missing", x.frogs(0, 0, 1), 0);
        x.keep(0, 0);
        due("a REED", x.frogs(0, 0, 1), -12);
        due("a REED, n 9", x.frogs(0, 0, 9), BAD);
        x.row(0, 1, 8);
        due("shorts", x.frogs(0, 0, 1), -12);
        bytes(0, 7, 35, 9, -1, 99, 0, 0, 0, 1, 5, 5, 0);
        due("below 0", x.frogs(0, -1, 1), 0);
        due("far below 0", x.frogs(0, MIN, 8), 0);
        due("far above", x.frogs(0, MAX, 8), 0);
        due("behind the end", x.frogs(0, 12, 1), 0);
        due("within a four", x.frogs(0, 9, 1), 0);
        due("two, then within a four", x.frogs(0, 1, 3), 2);
        due("PLACE", x.of(0, 2), 35);
        due("KEEPS", x.of(0, 3), 9);
        due("OWES nobody", x.of(0, 4), -1);
        due("HELD", x.of(0, 5), 99);
        due("OWES", x.of(1, 4), 0);
        due("HELD of the second", x.of(1, 5), 1);
        due("as many as are told", x.frogs(0, 5, 1), 1);
        int[][] notSo = {{36, 0, 0, 0}, {-1, 0, 0, 0}, {0, 10, 0, 0}, {0, -1, 0, 0}, {0, 0, 1, 0}, {0, 0, -2, 0},
                {0, 0, 0, 100}, {0, 0, 0, -1}};
        for (int[] four : notSo) {
            bytes(1, 4, 4, -1, 4, four[0], four[1], four[2], four[3], 6, 6, -1, 6);
            due("the second isn't so", x.frogs(1, 4, 2), 0);
        }
        due("one ahead of it", x.frogs(1, 0, 3), 1);
        due("four in all", x.count(1), 4);
        bytes(2, 1, 1, -1, 1, 2, 2, -1, 2, 3, 3, -1, 3, 4, 4, -1, 4, 5, 5, -1, 5);
        due("FULL behind four", x.frogs(2, 0, 5), 4);
        due("eight", x.count(1), 8);
        due("the last", x.of(7, 2), 4);
        due("FULL", x.frogs(2, 0, 1), 0);
        due("no CHANGES", x.count(3), 0);
        begin(4);
        x.girl(0);
        bytes(0, 1, 1, -1, 1, 2, 2, 0, 2, 3, 3, -1, 3, 4, 4, -1, 4, 5, 5, -1, 5, 6, 6, -1, 6, 7, 7, -1, 7, 8, 8, -1, 8);
        due("n 1", x.frogs(0, 0, 1), 1);
        due("no more than told", x.count(1), 1);
        due("up to FULL", x.frogs(0, 0, 8), 7);
        begin(4);
        x.girl(0);
        bytes(0, 1, 1, -1, 1, 2, 2, 0, 2, 3, 3, -1, 3, 4, 4, -1, 4, 5, 5, -1, 5, 6, 6, -1, 6, 7, 7, -1, 7, 8, 8, -1, 8);
        due("n 8", x.frogs(0, 0, 8), 8);
    }

    private static void mend() {
        begin(5);
        x.girl(3);
        x.girl(4);
        x.frog(5, 2);
        int[][] limits = {{0, 0, 35}, {1, 0, 99}, {2, 0, 35}, {3, 0, 9}, {4, -1, 1}, {5, 0, 99}, {6, 0, 11}, {7, 0, 11}};
        int[] first = {3, 60, 5, 2, -1, 0, 5, 0};
        for (int[] limit : limits) {
            int what = limit[0];
            due("below, what " + what, x.mend(0, what, limit[1] - 1), VOID);
            due("above, what " + what, x.mend(0, what, limit[2] + 1), VOID);
            due("MIN, what " + what, x.mend(0, what, MIN), VOID);
            due("MAX, what " + what, x.mend(0, what, MAX), VOID);
            due("as it was, what " + what, x.of(0, what), first[what]);
            due("highest, what " + what, x.mend(0, what, limit[2]), first[what]);
            due("lowest, what " + what, x.mend(0, what, limit[1]), limit[2]);
            due("lowest again, what " + what, x.mend(0, what, limit[1]), limit[1]);
            due("number -1, what " + what, x.mend(-1, what, limit[1]), VOID);
            due("number 8, what " + what, x.mend(8, what, limit[1]), VOID);
        }
        due("what -1", x.mend(0, -1, 0), VOID);
        due("what 8", x.mend(0, 8, 0), VOID);
        due("no girl 2", x.mend(2, 0, 0), VOID);
        due("girl 1", x.mend(1, 0, 9), 4);
        due("no frog 1", x.mend(1, 2, 0), VOID);
        due("TWO has number 0", x.mend(1, 6, 0), VOID);
        due("HOUR has number 0", x.mend(1, 7, 0), VOID);
        due("girl 0 stays", x.of(0, 0), 0);
    }

    private static void of() {
        begin(6);
        due("no girl", x.of(0, 0), VOID);
        due("no frog", x.of(0, 5), VOID);
        x.girl(9);
        x.frog(10, 7);
        x.lends(0, 20);
        int[] all = {9, 40, 10, 7, 0, 20, 5, 0};
        for (int what = 0; what <= 7; what++) {
            due("what " + what, x.of(0, what), all[what]);
            due("number 1, what " + what, x.of(1, what), VOID);
            due("number -1, what " + what, x.of(-1, what), VOID);
        }
        due("what -1", x.of(0, -1), VOID);
        due("what 8", x.of(0, 8), VOID);
    }

    private static void feed() {
        begin(7);
        due("-1", x.feed(-1), BAD);
        due("256", x.feed(256), BAD);
        due("0", x.feed(0), 1);
        due("255", x.feed(255), 2);
        for (int i = 3; i <= 120; i++) {
            due("byte " + i, x.feed('1'), i);
        }
        due("one more", x.feed('1'), FULL);
        due("a wrong one more", x.feed(256), BAD);
        due("120", x.count(2), 120);
    }

    private static int lossBy(String text) {
        x = new FrogBreath();
        x.girl(0);
        x.girl(15);
        x.frog(0, 0);
        x.frog(0, 0);
        x.frog(35, 4);
        x.mend(2, 4, 1);
        x.mend(2, 5, 50);
        x.mend(0, 7, 7);
        return lawOf(text) == 1 ? x.loses(2) : VOID;
    }

    private static void gives(String text, int want) {
        due(text, lossBy(text), want);
    }

    private static void law() {
        begin(8);
        gives("b/5", 10);
        gives("k", 4);
        gives("d", 5);
        gives("h", 7);
        gives("g", 1);
        gives("f", 2);
        gives("0012", 12);
        gives("9999", 20);
        gives("b", 20);
        gives("-5", 0);
        gives("2+3*4", 14);
        gives("(2+3)*4", 20);
        gives("20-5-3", 12);
        gives("19/4", 4);
        gives("0-19/4+10", 6);
        gives("(0-19)/4+10", 6);
        gives("(0-19)%4+10", 7);
        gives("19%4*3", 9);
        gives("7+5/0", 7);
        gives("7+5%0", 7);
        gives("2*-3+9", 3);
        gives("9--3", 12);
        gives("!0+!5*7", 1);
        gives("!!7", 1);
        gives("3&2", 1);
        gives("3&0", 0);
        gives("0|4", 1);
        gives("0|0", 0);
        gives("1|0&0", 1);
        gives("(1|0)&0", 0);
        gives("0&1|1", 1);
        gives("2<3", 1);
        gives("3<3", 0);
        gives("3=3", 1);
        gives("3=4", 0);
        gives("3>2", 1);
        gives("3>3", 0);
        gives("1+1<3*1", 1);
        gives("1&2=2", 1);
        gives("5*(3>2)", 5);
        gives("9999*9999*9999>0", 0);
        gives("9999*9999*9999<0", 1);
        gives("-9999*9999*9999<0", 0);
        gives("0?3;9", 9);
        gives("1?3;9", 3);
        gives("k=5?3;k=4?6;9", 6);
        gives("k=5?3;d=6?6", 0);
        gives("-1?3;9", 3);
        gives("8;1?3;9", 8);
        gives("0|0?3;0|7?11;4", 11);
        gives("1?0|3", 1);
        gives("1?((((((6))))))", 6);
        gives("9;".repeat(59) + "9", 9);
        gives("0?8;".repeat(29) + "1", 1);
        gives("0*0?8;0*0?9", 0);
        gives("((((((6))))))", 6);
        gives("!!!!!!6", 1);
        gives("-(-(-(-3)))", VOID);
        gives("-(-(-3))+10", 7);
        gives("(1)+(2)+((3))+((((((4))))))-(-1)", 11);
        due("loses no more than is HELD", lossWithHeld("19", 6), 6);
        due("without a text", lossWithHeld("", 50), 5);
        begin(8);
        x.girl(0);
        x.frog(0, 1);
        x.lends(0, 50);
        due("a text", lawOf("3"), 1);
        due("THE TAPE is empty", x.count(2), 0);
        due("a fault", lawOf("4+"), -102);
        due("THE TAPE is empty behind a fault", x.count(2), 0);
        due("the law stays", x.loses(0), 3);
        due("another", lawOf("5"), 1);
        due("it counts", x.loses(0), 5);
        due("nothing", x.law(), -100);
        due("it still counts", x.loses(0), 5);
        due("120 bytes", lawOf("1+".repeat(59) + "12"), 1);
        due("gives 71, held within", x.loses(0), 20);
        due("120 bytes, too early", lawOf("1+".repeat(60)), -220);
        due("30 lines", lawOf("0?1;".repeat(29) + "7"), 1);
        due("the last line", x.loses(0), 7);
    }

    private static int lossWithHeld(String text, int held) {
        x = new FrogBreath();
        x.girl(0);
        x.frog(0, 4);
        x.mend(0, 4, 0);
        x.mend(0, 5, held);
        x.mend(0, 7, 7);
        if (!text.isEmpty()) {
            lawOf(text);
        }
        return x.loses(0);
    }

    private static void lawFaults() {
        begin(8);
        String[] texts = {"", "1+", "+1", "1 +2", " 1", "a", "1a", "12345", "1234", "1<2<3", "1=2>3", "(1<2)<3", "1?2?3",
            "1?", "?1", "1;", ";1", "1;;2", "(1", "(1?2)", "(1;2)", "1)", "()", "1**2", "1*-2", "1&&2", "1||2", "!!!!!!!1",
            "((((((1))))))", "(((((((1)))))))", "((((((-1))))))", "-!-!-!-1", "!1!2", "bk", "b1", "1b", "--------",
            "1?2;3?4;5?", "((1)", "1<", "1&2<", "B", "1\n", "-(((((1)))))+((((((1))))))", "!(!(!(!1)))", "b+k*d%h-g/f",
            "1?(2;3"};
        int[] faults = {0, 2, 0, 1, 0, 0, 1, 4, -1, 3, 3, -1, 3,
            2, 0, 2, 0, 2, 2, 2, 2, 1, 1, 2, -1, 2, 2, 6,
            -1, 6, 6, 6, 2, 1, 1, 1, 6,
            10, 4, 2, 4, 0, 1, -1, 6, -1,
            4};
        for (int i = 0; i < texts.length; i++) {
            int want = faults[i] == -1 ? 1 : -100 - faults[i];
            due("law of " + texts[i], lawOf(texts[i]), want);
        }
        x.feed('1');
        x.feed(0);
        due("a byte 0", x.law(), -101);
        x.feed(255);
        due("a byte 255", x.law(), -100);
    }

    private static void loses() {
        oneLoan(9);
        x.frog(0, 5);
        due("no frog -1", x.loses(-1), BAD);
        due("no frog 2", x.loses(2), BAD);
        due("OWES nobody", x.loses(1), 0);
        x.mend(1, 5, 40);
        due("OWES nobody, HELD 40", x.loses(1), 0);
        int[] byHour = {3, 3, 3, 3, 4, 4, 4, 4, 5, 5, 5, 5};
        for (int h = 0; h < 12; h++) {
            x.mend(0, 7, h);
            due("at " + h, x.loses(0), byHour[h]);
        }
        x.mend(0, 5, 2);
        due("no more than HELD", x.loses(0), 2);
        due("nothing changes", x.of(0, 5), 2);
    }

    private static void later() {
        oneLoan(10);
        int[] held = {30, 27, 24, 21, 18, 14, 10, 6, 0, 0};
        int[] place = {8, 8, 8, 8, 8, 8, 7, 6, 0, 0};
        for (int n = 0; n < held.length; n++) {
            due("HELD behind " + n, x.later(n, 0, 0), held[n]);
            due("PLACE behind " + n, x.later(n, 0, 1), place[n]);
            due("OWES behind " + n, x.later(n, 0, 2), n < 8 ? 0 : -1);
            due("BREATH behind " + n, x.later(n, 0, 3), n < 8 ? 30 : 32);
        }
        due("n 40", x.later(40, 0, 3), 32);
        due("n 41", x.later(41, 0, 3), VOID);
        due("n -1", x.later(-1, 0, 3), VOID);
        due("what 4", x.later(0, 0, 4), VOID);
        due("what -1", x.later(0, 0, -1), VOID);
        due("frog 1", x.later(0, 1, 0), VOID);
        due("frog -1", x.later(0, -1, 2), VOID);
        x.girl(20);
        due("girl 1", x.later(9, 1, 3), 60);
        due("girl 2", x.later(9, 2, 3), VOID);
        due("still no frog 1", x.later(9, 1, 1), VOID);
        due("nothing changes", x.of(0, 5), 30);
        x.mend(0, 1, 98);
        due("what is above 99 is lost", x.later(8, 0, 3), 99);
        x.mend(0, 6, 11);
        x.mend(0, 7, 11);
        due("a step at 11", x.later(1, 0, 1), 7);
        due("none behind it", x.later(12, 0, 1), 7);
        due("the next at 11", x.later(13, 0, 1), 6);
    }

    private static void marsh() {
        oneLoan(11);
        x.girl(35);
        x.frog(34, 0);
        x.frog(35, 2);
        x.mend(1, 5, 17);
        x.lends(12, 10);
        due("OWE now", x.marsh(0, 0), 5);
        due("HELD now", x.marsh(0, 1), 57);
        due("OWE behind 5", x.marsh(5, 0), 5);
        due("HELD behind 5", x.marsh(5, 1), 14 + 17 + 0);
        due("OWE behind 6", x.marsh(6, 0), 1);
        due("OWE behind 8", x.marsh(8, 0), 0);
        due("HELD behind 40", x.marsh(40, 1), 17);
        due("n -1", x.marsh(-1, 0), BAD);
        due("n 41", x.marsh(41, 0), BAD);
        due("what -1", x.marsh(0, -1), BAD);
        due("what 2", x.marsh(0, 2), BAD);
    }

    private static void backWhen() {
        begin(12);
        due("none, all", x.backWhen(-1), 0);
        due("no frog", x.backWhen(0), BAD);
        due("frog -2", x.backWhen(-2), BAD);
        oneLoan(12);
        x.frog(3, 3);
        due("BACK", x.backWhen(0), 8);
        due("OWES nobody", x.backWhen(1), 0);
        due("all", x.backWhen(-1), 8);
        due("frog 2", x.backWhen(2), BAD);
        x.mend(1, 2, 0);
        x.mend(1, 4, 0);
        due("at her PLACE, from TWO on", x.backWhen(1), 6);
        for (int place = 0; place < 36; place++) {
            begin(12);
            x.girl(place);
            x.mend(0, 6, 0);
            x.frog(14, 0);
            x.lends(0, 1);
            int off = Math.abs(place / 6 - 2) + Math.abs(place % 6 - 2);
            due("BACK at " + place, x.backWhen(0), Math.max(1, off));
        }
        oneLoan(12);
        x.mend(0, 6, 11);
        due("three steps at 11", x.backWhen(0), 36);
        x.mend(0, 7, 11);
        due("three steps from 11", x.backWhen(0), 25);
        x.mend(0, 2, 15);
        due("five steps from 11", x.backWhen(0), NOT);
        due("all of them", x.backWhen(-1), NOT);
        x.mend(0, 2, 9);
        due("four steps from 11", x.backWhen(0), 37);
        x.mend(0, 7, 8);
        due("behind 40", x.backWhen(0), 40);
        x.mend(0, 7, 7);
        due("behind 41", x.backWhen(0), NOT);
    }

    private static void loan() {
        begin(13);
        x.girl(0);
        x.girl(35);
        x.frog(8, 3);
        due("x 0", x.loan(0, 0, 0), BAD);
        due("x 100", x.loan(0, 100, 0), BAD);
        due("gf -1", x.loan(-1, 9, 0), BAD);
        due("frog 1", x.loan(1, 9, 0), BAD);
        due("frog 9", x.loan(9, 9, 0), BAD);
        due("girl 2", x.loan(20, 9, 0), BAD);
        due("gf MIN", x.loan(MIN, 9, 0), BAD);
        due("gf MAX", x.loan(MAX, 9, 0), BAD);
        due("what -1", x.loan(0, 9, -1), BAD);
        due("what 2", x.loan(0, 9, 2), BAD);
        due("much", x.loan(0, 99, 0), 99 - 28);
        due("behind", x.loan(0, 99, 1), 8);
        due("1 is lost whole", x.loan(0, 1, 0), 0);
        due("behind 8 all the same", x.loan(0, 1, 1), 8);
        x.mend(0, 1, 5);
        due("whatever BREATH", x.loan(0, 99, 0), 71);
        x.mend(0, 1, 99);
        due("more than she can have", x.loan(0, 99, 0), 71);
        x.mend(0, 4, 1);
        x.mend(0, 5, 77);
        due("as if he OWED nobody", x.loan(0, 30, 0), 2);
        due("he still does", x.of(0, 4), 1);
        x.mend(0, 6, 11);
        x.mend(0, 3, 0);
        x.mend(0, 2, 2);
        due("two steps by 24", x.loan(0, 99, 1), 24);
        x.mend(0, 2, 8);
        due("three don't go", x.loan(0, 99, 1), NOT);
        due("three don't go, how much", x.loan(0, 99, 0), NOT);
        x.mend(0, 7, 11);
        due("25 is too late", x.loan(0, 99, 1), NOT);
        due("25 is too late, how much", x.loan(0, 99, 0), NOT);
        x.frog(0, 0);
        x.frog(29, 1);
        x.mend(0, 6, 0);
        x.mend(0, 7, 0);
        due("girl 1, frog 2", x.loan(12, 50, 1), 1);
        due("girl 1, frog 2, how much", x.loan(12, 50, 0), 49);
        due("girl 0, frog 2", x.loan(2, 50, 1), 9);
        due("girl 1, frog 0", x.loan(10, 50, 1), 7);
        due("girl 1, frog 1", x.loan(11, 50, 1), 10);
    }

    private static void best() {
        begin(14);
        x.girl(0);
        due("no frogs", x.best(0, 9, 0), NOT);
        due("no frogs, how much", x.best(0, 9, 1), NOT);
        x.mend(0, 6, 0);
        x.frog(3, 2);
        x.frog(1, 2);
        x.frog(6, 2);
        x.frog(1, 5);
        due("girl 1", x.best(1, 9, 0), BAD);
        due("girl -1", x.best(-1, 9, 0), BAD);
        due("x 0", x.best(0, 0, 0), BAD);
        due("x 100", x.best(0, 100, 0), BAD);
        due("what 2", x.best(0, 9, 2), BAD);
        due("what -1", x.best(0, 9, -1), BAD);
        due("of like ones the least", x.best(0, 9, 0), 1);
        due("how much", x.best(0, 9, 1), 7);
        due("x 1", x.best(0, 1, 1), 0);
        due("x 99", x.best(0, 99, 1), 97);
        due("0 is some", x.best(0, 2, 0), 0);
        due("0 comes", x.best(0, 2, 1), 0);
        x.mend(0, 6, 11);
        for (int f = 0; f < 4; f++) {
            x.mend(f, 2, 35);
        }
        due("none is", x.best(0, 9, 0), NOT);
        due("none is, how much", x.best(0, 9, 1), NOT);
        x.mend(2, 2, 2);
        due("0 ahead of NOT", x.best(0, 9, 0), 2);
        due("0 ahead of NOT, how much", x.best(0, 9, 1), 0);
    }

    private static void dealt() {
        begin(15);
        due("nobody", x.dealt(20, -1), 0);
        due("no girl", x.dealt(20, 0), BAD);
        x.girl(0);
        due("no frogs", x.dealt(20, -1), 0);
        due("no frogs, girl 0", x.dealt(20, 0), 9);
        x.girl(4);
        x.mend(0, 6, 0);
        x.frog(1, 2);
        x.frog(0, 2);
        due("x 0", x.dealt(0, -1), BAD);
        due("x 100", x.dealt(100, -1), BAD);
        due("girl -2", x.dealt(20, -2), BAD);
        due("girl 2", x.dealt(20, 2), BAD);
        due("most together", x.dealt(20, -1), 32);
        due("girl 0 leaves the nearer", x.dealt(20, 0), 1);
        due("girl 1", x.dealt(20, 1), 0);
        due("girl 1 can't", x.dealt(3, 1), 9);
        due("of like ones the first", x.dealt(3, 0), 0);
        due("only one", x.dealt(3, -1), 1);
        due("nothing comes", x.dealt(2, 0), 9);
        due("nothing at all", x.dealt(2, -1), 0);
        due("x 1", x.dealt(1, -1), 0);
        due("x 99", x.dealt(99, -1), 97 + 93);
        x.mend(0, 2, 35);
        x.mend(1, 2, 4);
        due("girl 0 doesn't lend for nothing", x.dealt(8, 0), 9);
        due("girl 1 does for some", x.dealt(8, 1), 1);
        due("some", x.dealt(8, -1), 6);
        begin(15);
        x.girl(0);
        x.girl(0);
        x.frog(0, 0);
        due("none last", x.dealt(9, 0), 0);
        due("no second frog", x.dealt(9, 1), 9);
        due("one lends", x.dealt(9, -1), 9 - 2);
        x.girl(0);
        x.frog(0, 0);
        x.frog(0, 9);
        due("three by three", x.dealt(99, -1), 97 + 97 + 99 - 56);
        due("the first", x.dealt(99, 0), 0);
        due("the second", x.dealt(99, 1), 1);
        due("the third", x.dealt(99, 2), 2);
    }

    private static void least() {
        oneLoan(16);
        due("gf 1", x.least(1, 0), BAD);
        due("gf 10", x.least(10, 0), BAD);
        due("gf -1", x.least(-1, 0), BAD);
        due("nv -1", x.least(0, -1), BAD);
        due("nv 210", x.least(0, 210), BAD);
        due("nv MAX", x.least(0, MAX), BAD);
        due("0 now", x.least(0, 0), 1);
        due("1 now", x.least(0, 1), 10);
        due("9 now", x.least(0, 9), 90);
        due("0 behind 20", x.least(0, 200), 1);
        due("1 behind 1", x.least(0, 11), 13);
        due("2 behind 5", x.least(0, 52), 36);
        due("9 behind 3", x.least(0, 39), 99);
        due("9 behind 4", x.least(0, 49), NOT);
        due("1 behind 7", x.least(0, 71), 34);
        due("BACK: 0", x.least(0, 81), NOT);
        x.girl(35);
        x.frog(0, 0);
        x.frog(20, 2);
        x.frog(9, 1);
        due("girl 1, frog 3: 1 behind 1", x.least(13, 11), 11);
        due("girl 1, frog 0: 1 behind 8", x.least(10, 81), 38);
        due("girl 1, frog 2: 1 behind 4", x.least(12, 41), 18);
        lawOf("b>49?20;0");
        due("by a law that takes from the rich", x.least(0, 14), 40);
        due("the rich sing louder", x.least(0, 17), 90);
    }

    private static void bars() {
        begin(17);
        int[] keeps = {0, 1, 2, 3, 4, 6, 7, 8};
        for (int k : keeps) {
            x.frog(0, k);
        }
        due("none told", x.bars(0, -1), 1);
        due("none begin", x.bars(0, 0), 0);
        due("1", x.bars(1, -1), 1);
        due("2, 3", x.bars(6, -1), 6);
        due("3, 4", x.bars(12, -1), 12);
        due("2, 4", x.bars(10, -1), 4);
        due("all", x.bars(255, -1), 2520);
        due("all at 0", x.bars(255, 0), 8);
        due("all at 6", x.bars(255, 6), 3);
        due("told at 6", x.bars(13, 6), 2);
        due("all at 9999", x.bars(255, 9999), 3);
        due("beat 10000", x.bars(255, 10000), BAD);
        due("beat -2", x.bars(255, -2), BAD);
        due("frogs 256", x.bars(256, 0), BAD);
        due("frogs -1", x.bars(-1, 0), BAD);
        begin(17);
        x.frog(0, 9);
        due("frog 1", x.bars(2, 0), BAD);
        due("10", x.bars(1, -1), 10);
    }

    private static void stops() {
        begin(18);
        due("none", x.stops(0, 0), 0);
        due("none, which", x.stops(0, 1), 0);
        x.frog(0, 0);
        x.frog(2, 0);
        x.frog(4, 0);
        due("x -1", x.stops(-1, 0), BAD);
        due("x 11", x.stops(11, 0), BAD);
        due("what -1", x.stops(0, -1), BAD);
        due("what 2", x.stops(0, 2), BAD);
        due("each his own", x.stops(1, 0), 3);
        due("each his own, which", x.stops(1, 1), 7);
        due("the middle", x.stops(2, 0), 1);
        due("the middle, which", x.stops(2, 1), 2);
        due("of like ones the least", x.stops(4, 1), 1);
        x.frog(34, 0);
        due("two", x.stops(2, 0), 2);
        due("two, which", x.stops(2, 1), 10);
        due("at 5 one is too few", x.stops(4, 0), 2);
        due("one at 5", x.stops(5, 1), 4);
        x.frog(4, 0);
        due("one place, two frogs", x.stops(0, 0), 4);
        due("the lesser of the two", x.stops(0, 1), 15);
        begin(18);
        x.frog(0, 0);
        x.frog(35, 0);
        due("corner to corner", x.stops(10, 0), 1);
        due("less than that", x.stops(9, 0), 2);
    }

    private static void judge() {
        oneLoan(19);
        due("shelf -1", x.judge(-1, 0), BAD);
        due("shelf 6", x.judge(6, 0), BAD);
        due("frog 1, bare", x.judge(0, 1), BAD);
        due("bare", x.judge(0, 0), -11);
        x.row(0, 1, 1);
        due("shorts", x.judge(0, 0), -12);
        x.body(0);
        x.keep(0, 0);
        due("a REED", x.judge(0, 0), -12);
        bytes(0);
        due("an empty one", x.judge(0, 0), NOT);
        bytes(0, 30, 27, 24, 21, 18, 14, 10, 6, 0, 0);
        due("all so", x.judge(0, 0), NOT);
        x.put(0, 7, 5);
        due("the eighth isn't", x.judge(0, 0), 7);
        x.put(0, 7, 100);
        due("not told", x.judge(0, 0), NOT);
        x.put(0, 9, -100);
        due("-100 is told", x.judge(0, 0), 9);
        x.put(0, 0, 101);
        due("101 is told", x.judge(0, 0), 0);
        x.row(0, 0, 60);
        x.put(0, 41, 7);
        for (int i = 0; i < 8; i++) {
            x.put(0, i, 100);
        }
        due("41 count", x.judge(0, 0), NOT);
        x.put(0, 40, 7);
        due("the 41st counts", x.judge(0, 0), 40);
    }

    private static void fits() {
        oneLoan(20);
        x.girl(35);
        due("shelf 6", x.fits(6, 0, 0), BAD);
        due("frog 1", x.fits(0, 1, 0), BAD);
        due("frog -1", x.fits(0, -1, 0), BAD);
        due("what 2", x.fits(0, 0, 2), BAD);
        due("what -1", x.fits(0, 0, -1), BAD);
        due("bare", x.fits(0, 0, 0), -11);
        x.row(0, 2, 3);
        due("ints", x.fits(0, 0, 1), -12);
        bytes(0, 30, 27);
        due("KEPT by 3", x.fits(0, 0, 0), 8);
        due("WHOSE: of both", x.fits(0, 0, 1), 3);
        bytes(0, 30, 30, 30);
        due("KEPT by 0", x.fits(0, 0, 0), 1);
        due("WHOSE: nobody's", x.fits(0, 0, 1), 256);
        bytes(0, 30);
        due("KEPT by any", x.fits(0, 0, 0), 1023);
        due("WHOSE: any", x.fits(0, 0, 1), 259);
        bytes(0, 100, 100, 100, 100, 100, 100, 100, 100, 0);
        due("gone by eight", x.fits(0, 0, 0), 1023);
        due("BACK by eight", x.fits(0, 0, 1), 1);
        bytes(0, 31, 100);
        due("KEPT by none", x.fits(0, 0, 0), 0);
        due("WHOSE: none's", x.fits(0, 0, 1), 0);
        due("as it was", x.of(0, 3), 3);
    }

    private static void alike() {
        begin(21);
        due("no frogs", x.alike(), 0);
        x.girl(0);
        x.mend(0, 6, 11);
        for (int f = 0; f < 4; f++) {
            x.frog(35, 0);
        }
        due("four that hold nothing", x.alike(), 6);
        x.mend(0, 4, 0);
        due("one who owes", x.alike(), 6);
        x.mend(0, 5, 20);
        due("one holds more", x.alike(), 3);
        x.mend(1, 5, 20);
        due("two that hold 20, one loses some", x.alike(), 1);
        x.mend(1, 4, 0);
        due("both lose alike", x.alike(), 2);
        x.mend(0, 6, 0);
        x.mend(1, 2, 1);
        due("one gives back sooner", x.alike(), 1);
        begin(21);
        x.girl(0);
        x.frog(0, 1);
        x.frog(0, 1);
        x.mend(0, 4, 0);
        x.mend(0, 5, 1);
        due("unlike only now", x.alike(), 0);
        begin(21);
        x.girl(0);
        x.frog(0, 0);
        x.frog(0, 0);
        x.mend(0, 5, 9);
        x.mend(1, 5, 9);
        x.mend(0, 4, 0);
        x.mend(0, 6, 11);
        lawOf("h=11");
        due("unlike only behind 12", x.alike(), 0);
        lawOf("0");
        x.mend(0, 7, 1);
        due("BACK behind 11", x.alike(), 0);
        x.mend(0, 7, 11);
        x.mend(0, 6, 0);
        x.mend(0, 2, 35);
        due("BACK behind 10", x.alike(), 0);
        x.mend(0, 6, 11);
        due("a step at 11", x.alike(), 1);
        lawOf("h=0&d<3");
        x.mend(0, 7, 0);
        x.mend(0, 2, 3);
        due("unlike only behind 13", x.alike(), 1);
        x.mend(0, 7, 1);
        due("unlike behind 12 too", x.alike(), 0);
    }

    private static void ring() {
        begin(22);
        due("none", x.ring(0), BAD);
        x.girl(0);
        due("but one", x.ring(0), NOT);
        due("girl 1", x.ring(1), BAD);
        due("girl -1", x.ring(-1), BAD);
        x.girl(35);
        due("two", x.ring(0), 2);
        x.girl(3);
        x.girl(5);
        due("from the far one", x.ring(1), 2);
        x.girl(5);
        x.girl(5);
        due("three at one place", x.ring(5), 2);
        due("girl 6", x.ring(6), BAD);
    }

    private static void byTurns() {
        begin(23);
        x.girl(0);
        x.frog(3, 2);
        x.lends(0, 40);
        due("frog 1", x.byTurns(1, 1, 0), BAD);
        due("frog -1", x.byTurns(-1, 1, 0), BAD);
        due("n 0", x.byTurns(0, 0, 0), BAD);
        due("n 6", x.byTurns(0, 6, 0), BAD);
        due("what -1", x.byTurns(0, 1, -1), BAD);
        due("what 2", x.byTurns(0, 1, 2), BAD);
        // TWO 5, KEEPS 2: 20 come back; TWO 4: 23; 3: 26; 2: 29; KEEPS one more costs 8, 7, 6, 5 of these
        due("the prince", x.byTurns(0, 1, 0), 23);
        due("he does", x.byTurns(0, 1, 1), 1);
        due("and the reed", x.byTurns(0, 2, 0), 16);
        due("and the prince", x.byTurns(0, 3, 0), 20);
        due("and the reed again", x.byTurns(0, 4, 0), 14);
        due("five", x.byTurns(0, 5, 0), 19);
        due("nothing changes", x.of(0, 6), 5);
        due("KEEPS neither", x.of(0, 3), 2);
        x.mend(0, 6, 1);
        due("TWO is 1", x.byTurns(0, 1, 0), 34);
        x.mend(0, 6, 0);
        due("TWO is 0", x.byTurns(0, 1, 0), 34);
        due("it's all the same", x.byTurns(0, 1, 1), 0);
        x.mend(0, 3, 9);
        due("KEEPS is 9", x.byTurns(0, 2, 0), 13);
        x.mend(0, 4, -1);
        due("OWES nobody", x.byTurns(0, 3, 0), 0);
        due("nothing to do", x.byTurns(0, 3, 1), 0);
        x.mend(0, 4, 0);
        x.mend(0, 6, 11);
        due("not BACK by 24", x.byTurns(0, 1, 0), 0);
        lawOf("h<5?20;0");
        x.mend(0, 6, 5);
        x.mend(0, 7, 5);
        due("sooner is no better", x.byTurns(0, 1, 1), 0);
        due("all comes back", x.byTurns(0, 1, 0), 40);
    }

    private static void drawn() {
        begin(24);
        due("n 0", x.drawn(1, 100, -1), BAD);
        due("m 0", x.drawn(1, 10000, -1), BAD);
        due("m 41", x.drawn(1, 14100, -1), BAD);
        due("n 31", x.drawn(1, 310100, -1), BAD);
        due("below 0", x.drawn(1, -10100, -1), BAD);
        due("MIN", x.drawn(1, MIN, -1), BAD);
        due("MAX", x.drawn(1, MAX, -1), BAD);
        due("girl 0", x.drawn(1, 10100, 0), BAD);
        due("girl -2", x.drawn(1, 10100, -2), BAD);
        due("nobody", x.drawn(1, 304099, -1), 0);
        x.girl(0);
        x.girl(5);
        x.frog(3, 1);
        x.frog(4, 1);
        x.lends(0, 20);
        x.lends(11, 20);
        due("no carts", x.drawn(0, 10100, -1), 2);
        // by seed 0: frog 0 where CARTS are above 0, frog 0 above 36, frog 1 above 56, 0 above 85, 98, 95, 45, 1 above 9
        due("below 1", x.drawn(0, 10101, -1), 1);
        due("frog 0 again", x.drawn(0, 10299, -1), 1);
        due("frog 1 at the third hour", x.drawn(0, 10357, -1), 0);
        due("56 is not below 56", x.drawn(0, 10356, -1), 1);
        due("the second June goes on with z", x.drawn(0, 20130, -1), 3);
        due("37 is enough for it", x.drawn(0, 20137, -1), 2);
        due("by seed 7 frog 1", x.drawn(7, 10133, -1), 1);
        due("32 is not below 32", x.drawn(7, 10132, -1), 2);
        due("below 0 the seed wraps too", x.drawn(-740551042, 10157, -1), 1);
        x.mend(0, 6, 11);
        due("seven hours below 56", x.drawn(0, 10756, -1), 1);
        due("eight hours below 10", x.drawn(0, 10810, -1), 0);
        due("eight hours below 9", x.drawn(0, 10809, -1), 1);
        x.undo();
        due("BREATH of 0", x.drawn(0, 300100, 0), 1200);
        due("BREATH of 1", x.drawn(0, 20100, 1), 80);
        due("all BACK", x.drawn(0, 34000, 1), 3 * (40 + 20 - 6 - 2));
        due("nothing changes", x.marsh(0, 0), 3);
        due("no hour is led", x.led(0), 0);
        begin(24);
        x.girl(0);
        x.frog(3, 0);
        x.lends(0, 10);
        due("one frog", x.drawn(0, 10101, -1), 0);
        due("what he held is gone", x.drawn(0, 14001, 0), 50);
        due("30 Junes of 40 hours", x.drawn(0, 304000, 0), 30 * 56);
    }

    private static void hour() {
        begin(25);
        due("an empty marsh", x.hour(), 0);
        due("HOUR", x.of(0, 7), 1);
        for (int i = 2; i <= 11; i++) {
            x.hour();
        }
        due("HOUR 11", x.of(0, 7), 11);
        x.hour();
        due("behind 11", x.of(0, 7), 0);
        due("hours", x.led(0), 12);
        x.girl(7);
        x.frog(0, 1);
        x.frog(7, 0);
        x.frog(14, 0);
        x.frog(20, 0);
        x.lends(0, 30);
        x.lends(1, 10);
        x.lends(2, 5);
        x.mend(3, 5, 44);
        x.mend(0, 1, 90);
        x.mend(0, 6, 2);
        due("at 0", x.hour(), 0);
        due("at her PLACE, but too early", x.of(1, 4), 0);
        due("no step either", x.of(0, 2), 0);
        x.hour();
        due("at 2", x.hour(), 1);
        due("X first", x.of(0, 2), 1);
        due("HELD is less", x.of(0, 5), 27);
        due("X ahead of Y", x.of(2, 2), 13);
        due("BREATH is at most 99", x.of(0, 1), 99);
        due("at 3, by X and by Y", x.hour(), 2);
        due("lost", x.led(2), 4);
        due("BACK", x.led(3), 3);
        due("BREATH of both", x.of(0, 1), 99);
        due("who OWES nobody stays", x.of(3, 5), 44);
        due("where he is", x.of(3, 2), 20);
        x.mend(3, 4, 0);
        x.mend(3, 5, 0);
        x.mend(3, 2, 33);
        due("up in Y, X first", x.hour(), 0);
        due("one off in X", x.of(3, 2), 32);
        x.hour();
        x.hour();
        due("X as hers", x.of(3, 2), 25);
        x.hour();
        due("up in Y", x.of(3, 2), 19);
        x.hour();
        due("BACK with nothing", x.hour(), 1);
        due("four are BACK", x.led(3), 4);
    }

    private static void lends() {
        begin(26);
        x.girl(0);
        x.girl(0);
        x.frog(0, 0);
        due("girl 1", x.lends(10, 7), 53);
        due("of her", x.of(0, 4), 1);
        begin(26);
        x.girl(0);
        x.frog(35, 2);
        x.frog(35, 2);
        due("gf -1", x.lends(-1, 1), BAD);
        due("gf -10", x.lends(-10, 1), BAD);
        due("frog 2", x.lends(2, 1), BAD);
        due("girl 1", x.lends(10, 1), BAD);
        due("x 0", x.lends(0, 0), BAD);
        due("x 100", x.lends(0, 100), BAD);
        due("more than she has", x.lends(0, 61), STATE);
        due("some", x.lends(0, 59), 1);
        due("he OWES", x.lends(0, 1), STATE);
        due("he OWES, x 100", x.lends(0, 100), BAD);
        due("the last", x.lends(1, 1), 0);
        due("OWES", x.of(1, 4), 0);
        due("HELD", x.of(1, 5), 1);
        due("loans", x.led(1), 2);
        x.over(1);
        x.mend(1, 5, 40);
        x.mend(0, 1, 99);
        due("all at once", x.lends(1, 99), 0);
        due("HELD is the loan", x.of(1, 5), 99);
    }

    private static void over() {
        oneLoan(27);
        due("frog -1", x.over(-1), BAD);
        due("frog 1", x.over(1), BAD);
        due("HELD", x.over(0), 30);
        due("again", x.over(0), STATE);
        due("OWES nobody", x.of(0, 4), -1);
        due("holds nothing", x.of(0, 5), 0);
        due("nothing comes back", x.of(0, 1), 30);
        due("led", x.led(4), 1);
        due("not lost by THE LAW", x.led(2), 0);
        x.mend(0, 4, 0);
        due("OWES, and holds nothing", x.over(0), 0);
        due("led again", x.led(4), 2);
    }

    private static void led() {
        oneLoan(28);
        due("what -1", x.led(-1), BAD);
        due("what 5", x.led(5), BAD);
        for (int i = 0; i < 8; i++) {
            x.hour();
        }
        x.lends(0, 5);
        x.over(0);
        int[] all = {8, 2, 28, 1, 1};
        for (int what = 0; what < 5; what++) {
            due("what " + what, x.led(what), all[what]);
        }
        x.later(40, 0, 0);
        x.drawn(1, 304010, 0);
        x.byTurns(0, 5, 0);
        for (int what = 0; what < 5; what++) {
            due("in thought, what " + what, x.led(what), all[what]);
        }
    }

    private static void image() {
        oneLoan(30);
        due("none", x.back(), STATE);
        x.hour();
        x.mend(0, 6, 1);
        promise(29);
        due("an image", x.image(), 1);
        promise(30);
        x.hour();
        x.over(0);
        x.mend(0, 3, 9);
        x.mend(0, 0, 20);
        x.mend(0, 6, 7);
        x.girl(9);
        x.frog(9, 1);
        x.lends(11, 25);
        due("laid back", x.back(), 1);
        due("hours", x.led(0), 1);
        due("loans", x.led(1), 1);
        due("lost", x.led(2), 3);
        due("run over", x.led(4), 0);
        due("HOUR", x.of(0, 7), 1);
        due("BREATH", x.of(0, 1), 30);
        due("PLACE of a frog", x.of(0, 2), 8);
        due("OWES", x.of(0, 4), 0);
        due("HELD", x.of(0, 5), 27);
        due("PLACE of a girl stays", x.of(0, 0), 20);
        due("KEEPS stays", x.of(0, 3), 9);
        due("TWO stays", x.of(0, 6), 7);
        due("a girl that came since", x.of(1, 1), 35);
        due("a frog that came since", x.of(1, 4), 1);
        due("what he holds", x.of(1, 5), 25);
        due("CHANGES stay", x.count(3), 4);
        x.hour();
        due("laid back again", x.back(), 1);
        due("HOUR again", x.of(0, 7), 1);
        x.hour();
        x.hour();
        promise(29);
        due("another image", x.image(), 3);
        promise(30);
        x.hour();
        due("the latest is laid back", x.back(), 3);
        due("undone behind it", x.undo(), 3);
        due("TWO", x.of(0, 6), 1);
    }

    private static void undo() {
        begin(31);
        x.girl(3);
        x.girl(4);
        x.mend(1, 0, 20);
        x.undo();
        due("of girl 1", x.of(1, 0), 4);
        due("not of girl 0", x.of(0, 0), 3);
        x.redo();
        due("again of girl 1", x.of(1, 0), 20);
        begin(31);
        due("none", x.undo(), STATE);
        x.girl(3);
        x.frog(4, 2);
        due("coming is none", x.undo(), STATE);
        x.mend(0, 0, 10);
        x.mend(0, 0, 10);
        x.mend(0, 0, 36);
        x.mend(0, 1, 70);
        x.mend(0, 2, 11);
        x.mend(0, 3, 5);
        x.mend(0, 4, 0);
        x.mend(0, 5, 33);
        x.mend(0, 6, 2);
        x.mend(0, 7, 3);
        x.hour();
        due("eight", x.count(3), 8);
        int[] first = {3, 60, 4, 2, -1, 0, 5, 0};
        for (int what = 7; what >= 0; what--) {
            due("undone, what " + what, x.undo(), what);
            due("as it was, what " + what, x.of(0, what), first[what]);
        }
        due("no more", x.undo(), STATE);
        for (int i = 0; i < 45; i++) {
            x.mend(0, 1, i);
        }
        due("40 are kept", x.count(3), 40);
        for (int i = 39; i >= 0; i--) {
            due("of the 40", x.undo(), i);
        }
        due("the oldest are forgotten", x.of(0, 1), 4);
        due("no more than 40", x.undo(), STATE);
        due("40 to redo", x.redo(), 39);
    }

    private static void redo() {
        begin(32);
        due("none", x.redo(), STATE);
        x.girl(3);
        x.frog(4, 2);
        x.mend(0, 1, 70);
        x.mend(0, 3, 8);
        due("nothing undone", x.redo(), STATE);
        x.undo();
        x.undo();
        due("the first", x.redo(), 1);
        due("BREATH", x.of(0, 1), 70);
        due("KEEPS is still undone", x.of(0, 3), 2);
        due("telling the same is none", x.mend(0, 3, 2), 2);
        due("a deed is none", x.lends(0, 20), 50);
        due("a wrong one is none", x.mend(0, 3, 10), VOID);
        due("the second", x.redo(), 0);
        due("KEEPS", x.of(0, 3), 8);
        due("no more", x.redo(), STATE);
        due("two to undo", x.count(3), 2);
        x.undo();
        x.mend(0, 6, 1);
        due("another came behind", x.redo(), STATE);
        x.undo();
        x.undo();
        due("BREATH as it was told ahead", x.of(0, 1), 60);
        due("redone", x.redo(), 1);
        due("TWO", x.redo(), 0);
        due("TWO is 1", x.of(0, 6), 1);
        due("KEEPS stays undone", x.of(0, 3), 2);
    }

    private static void body() {
        begin(33);
        due("kind -1", x.body(-1), BAD);
        due("kind 8", x.body(8), BAD);
        for (int i = 0; i < 50; i++) {
            due("number", x.body(i % 8), i);
        }
        due("a 51st", x.body(0), FULL);
        due("a wrong 51st", x.body(8), BAD);
        due("50", x.count(4), 50);
    }

    /** Bodies of the kinds 0 to 7, so that each's number is its kind. */
    private static void eightBodies(int number) {
        begin(number);
        for (int kind = 0; kind < 8; kind++) {
            x.body(kind);
        }
    }

    private static void acts(int kind, int lends, int sings, int keeps, int tells) {
        int[] want = {lends, sings, keeps, tells};
        for (int act = 0; act < 4; act++) {
            due("kind " + kind + ", act " + act, x.act(kind, act, 10), want[act]);
        }
    }

    private static void act() {
        eightBodies(34);
        acts(0, 10, 20, 10, 20 - 1);
        acts(1, 14, 28, 11, 28 - 0);
        acts(2, 12, -24, 8, -24 - 3);
        acts(3, 13, -28, 27, -28 - 6);
        // keeps(1) of 4 is (1 ^ 4) - lends(2), which is 9
        acts(4, 17, 34, 14 - 9, 34 - (5 - 9));
        acts(5, 15, -32, 45, (-32 - 12) ^ 5);
        acts(6, 32, 64, 12, 64 - 7);
        // keeps(x) of 7 is (x ^ 7) - 12
        acts(7, 20, 40 + 5 - 12, 13 - 12, 40 - 7 - (6 - 12) - 1);
        due("wraps", x.act(1, 0, MAX), MIN + 3);
        due("wraps twice", x.act(6, 1, MAX), (MAX + 6) * 4);
        due("no REED", x.act(8, 0, 1), 0);
        due("REED -1", x.act(-1, 0, 1), 0);
        due("no TRACE then", x.count(5), 0);
        x.act(0, 0, 1);
        due("ACT 4", x.act(0, 4, 1), 0);
        due("no TRACE of it", x.trace(0), BAD);
        due("ACT -1", x.act(0, -1, 1), 0);
    }

    private static void ran(int kind, int act, int... bodies) {
        x.act(kind, act, 10);
        due("bodies of kind " + kind + ", act " + act, x.count(5), bodies.length);
        for (int i = 0; i < bodies.length; i++) {
            due("body " + i + " of kind " + kind + ", act " + act, x.trace(i), bodies[i]);
        }
        due("no more of kind " + kind, x.trace(bodies.length), BAD);
    }

    private static void trace() {
        eightBodies(35);
        due("none yet", x.trace(0), BAD);
        ran(0, 3, 2, 10, 1, 11);
        ran(1, 0, 20, 1);
        ran(1, 3, 2, 10, 20, 1, 11);
        ran(2, 3, 2, 30, 10, 1, 11);
        ran(3, 3, 2, 41, 30, 10, 1, 40, 11);
        ran(4, 2, 50, 11, 20, 1);
        ran(4, 3, 2, 10, 20, 1, 50, 11, 20, 1);
        ran(5, 3, 60, 2, 41, 30, 10, 1, 40, 11);
        ran(6, 3, 2, 10, 70, 1, 11);
        ran(7, 1, 80, 10, 20, 1, 50, 11, 20, 1);
        ran(7, 3, 81, 2, 80, 10, 20, 1, 50, 11, 20, 1, 50, 11, 20, 1);
        due("-1", x.trace(-1), BAD);
        due("24", x.trace(24), BAD);
        due("MAX", x.trace(MAX), BAD);
    }

    private static void keep() {
        begin(36);
        x.body(3);
        due("shelf -1", x.keep(-1, 0), BAD);
        due("shelf 6", x.keep(6, 0), BAD);
        due("body 1", x.keep(0, 1), BAD);
        due("body -2", x.keep(0, -2), BAD);
        due("a REED", x.keep(5, 0), 1);
        due("it is there", x.taken(5, 0), 3);
        due("it is no ROW", x.put(5, 0, 1), -12);
        due("nothing", x.keep(5, -1), 1);
        due("it is bare", x.taken(5, 0), -11);
        x.row(5, 0, 3);
        x.keep(5, -1);
        due("no ROW either", x.put(5, 0, 1), -11);
    }

    private static void row() {
        begin(37);
        due("shelf -1", x.row(-1, 0, 1), BAD);
        due("shelf 6", x.row(6, 0, 1), BAD);
        due("sort -1", x.row(0, -1, 1), BAD);
        due("sort 5", x.row(0, 5, 1), BAD);
        due("sort 5, n -1", x.row(0, 5, -1), BAD);
        due("n 61", x.row(0, 0, 61), BAD);
        due("n MAX", x.row(0, 0, MAX), BAD);
        due("n -1", x.row(0, 0, -1), -14);
        due("n MIN", x.row(0, 0, MIN), -14);
        due("still bare", x.put(0, 0, 1), -11);
        due("n 60", x.row(0, 3, 60), 1);
        due("the last", x.put(0, 59, 7), 1);
        due("kept", x.element(0, 59), 7);
        due("a new one", x.row(0, 3, 60), 1);
        due("0 at first", x.element(0, 59), 0);
        due("n 0", x.row(0, 4, 0), 1);
        due("none in it", x.put(0, 0, 1), -13);
        x.body(0);
        x.keep(1, 0);
        due("where a REED was", x.row(1, 0, 1), 1);
        due("no REED now", x.taken(1, 0), -12);
    }

    private static void put() {
        begin(38);
        due("shelf -1", x.put(-1, 0, 1), BAD);
        due("shelf 6", x.put(6, 0, 1), BAD);
        due("bare", x.put(0, 0, 1), -11);
        x.body(0);
        x.keep(0, 0);
        due("a REED", x.put(0, -1, 1), -12);
        long v = 0x123456789ABCDEF0L;
        long[] kept = {(byte) 0xF0, (short) 0xDEF0, 0x9ABCDEF0, v, 1};
        for (int sort = 0; sort <= 4; sort++) {
            x.row(0, sort, 3);
            due("i -1", x.put(0, -1, v), -13);
            due("i 3", x.put(0, 3, v), -13);
            due("i MAX", x.put(0, MAX, v), -13);
            due("i MIN", x.put(0, MIN, v), -13);
            due("i 1", x.put(0, 1, v), 1);
            due("lowest bits, sort " + sort, x.element(0, 1), kept[sort]);
            due("the next stays", x.element(0, 2), 0);
            x.put(0, 2, 1L << 40);
            due("a high bit, sort " + sort, x.element(0, 2), sort == 3 ? 1L << 40 : sort == 4 ? 1 : 0);
            x.put(0, 1, 0);
            due("0 again", x.element(0, 1), 0);
        }
    }

    private static void element() {
        begin(39);
        due("shelf -1", x.element(-1, 0), Long.MIN_VALUE);
        due("shelf 6", x.element(6, 0), Long.MIN_VALUE);
        due("bare", x.element(0, 0), Long.MIN_VALUE);
        x.body(0);
        x.keep(0, 0);
        due("a REED", x.element(0, 0), Long.MIN_VALUE);
        x.row(0, 3, 2);
        due("i -1", x.element(0, -1), Long.MIN_VALUE);
        due("i 2", x.element(0, 2), Long.MIN_VALUE);
        due("0 at first", x.element(0, 1), 0);
        x.put(0, 1, Long.MAX_VALUE);
        due("the most", x.element(0, 1), Long.MAX_VALUE);
        x.put(0, 0, -11);
        due("-11 itself", x.element(0, 0), -11);
    }

    private static void shift() {
        begin(40);
        due("shelf -1", x.shift(-1, 0, 0, 0, 0), BAD);
        due("shelf 6", x.shift(0, 0, 6, 0, 0), BAD);
        due("both bare", x.shift(0, 0, 1, 0, 0), -11);
        x.body(0);
        x.keep(0, 0);
        due("one bare, one a REED", x.shift(0, 0, 1, 0, 0), -11);
        due("a REED", x.shift(0, 0, 0, 0, 0), -12);
        bytes(1, 1, 2, 3, 4, 5);
        due("a REED to a ROW", x.shift(0, 0, 1, 0, 0), -12);
        due("a ROW to a REED", x.shift(1, 0, 0, 0, 0), -12);
        x.row(2, 1, 5);
        due("unlike sorts", x.shift(1, 9, 2, 0, 1), -12);
        x.row(2, 0, 3);
        due("to a bare one", x.shift(1, 0, 3, 0, 0), -11);
        due("n -1", x.shift(1, 0, 2, 0, -1), -13);
        due("n MIN", x.shift(1, 0, 2, 0, MIN), -13);
        due("i -1", x.shift(1, -1, 2, 0, 1), -13);
        due("j -1", x.shift(1, 0, 2, -1, 1), -13);
        due("past the end", x.shift(1, 3, 2, 0, 3), -13);
        due("past the other's end", x.shift(1, 0, 2, 1, 3), -13);
        due("n MAX", x.shift(1, 1, 2, 1, MAX), -13);
        due("i MAX", x.shift(1, MAX, 2, 1, 1), -13);
        due("n 0 at the ends", x.shift(1, 5, 2, 3, 0), 0);
        due("n 0 above the end", x.shift(1, 6, 2, 3, 0), -13);
        due("n 0 above the other's end", x.shift(1, 5, 2, 4, 0), -13);
        due("nothing came", x.element(2, 0), 0);
        due("three", x.shift(1, 1, 2, 0, 3), 3);
        holds(2, 2, 3, 4);
        due("up in itself", x.shift(1, 0, 1, 1, 4), 4);
        holds(1, 1, 1, 2, 3, 4);
        due("down in itself", x.shift(1, 2, 1, 0, 3), 3);
        holds(1, 2, 3, 4, 3, 4);
    }

    private static void taken() {
        eightBodies(41);
        due("shelf -1", x.taken(-1, 0), BAD);
        due("shelf 6", x.taken(6, 0), BAD);
        due("kind -1", x.taken(0, -1), BAD);
        due("kind 8", x.taken(0, 8), BAD);
        due("bare", x.taken(0, 0), -11);
        x.row(0, 0, 1);
        due("a ROW", x.taken(0, 0), -12);
        int[] above = {1, 1 | 2, 1 | 4, 1 | 4 | 8, 1 | 2 | 16, 1 | 4 | 8 | 32, 1 | 64, 1 | 2 | 16 | 128};
        for (int kind = 0; kind < 8; kind++) {
            x.keep(0, kind);
            for (int k = 0; k < 8; k++) {
                due("kind " + kind + " for " + k, x.taken(0, k), (above[kind] >> k & 1) == 1 ? kind : -12);
            }
        }
    }

    private static void count() {
        eightBodies(42);
        x.girl(0);
        x.girl(0);
        x.frog(0, 0);
        x.feed(65);
        x.feed(65);
        x.feed(65);
        x.mend(0, 1, 1);
        x.mend(0, 1, 2);
        x.mend(0, 1, 3);
        x.mend(0, 1, 4);
        x.undo();
        x.undo();
        x.act(7, 3, 1);
        int[] all = {2, 1, 3, 2, 8, 14};
        for (int what = 0; what < 6; what++) {
            due("what " + what, x.count(what), all[what]);
        }
        due("what -1", x.count(-1), BAD);
        due("what 6", x.count(6), BAD);
    }
}
