/** The marsh and its hours, in deed and in thought (parts 1 and 2 of the Terms), sentence by sentence. */
public final class HourTests extends Checks {
    public static void main(String[] args) {
        places();
        girls();
        breath();
        frogs();
        keeps();
        owes();
        held();
        twoAndHour();
        less();
        steps();
        onlyFromTwo();
        breathOfHer();
        behindAll();
        behind();
        backWhen();
        backWhenAll();
        loan();
        within24();
        pairs();
        best();
        bestOfLikeOnes();
        dealt();
        dealtOfLikeOnes();
        sings();
        least();
        finish();
    }

    /** A girl, and frog 0 who keeps 0 and holds so much of hers; nothing is lost by THE LAW. */
    private static void oneOwes(int girlPlace, int frogPlace, int held) {
        x = new FrogBreath();
        x.girl(girlPlace);
        x.frog(frogPlace, 0);
        x.mend(0, OWES, 0);
        x.mend(0, HELD, held);
        lawOf("0");
    }

    private static int far(int place, int other) {
        return Math.abs(place / 6 - other / 6) + Math.abs(place % 6 - other % 6);
    }

    private static void places() {
        told("PLACES 0 .. 35: 6 Y and X (FAR: X and Y apart, added)");
        for (int girl = 0; girl <= 35; girl++) {
            oneOwes(girl, 0, 99);
            lawOf("d");
            for (int frog = 0; frog <= 35; frog++) {
                x.mend(0, FROG_PLACE, frog);
                due("FAR from " + frog + " to " + girl, x.loses(0), far(frog, girl));
            }
        }
        x = new FrogBreath();
        due("girl(-1)", x.girl(-1), BAD);
        due("girl(36)", x.girl(36), BAD);
        due("frog(-1, 0)", x.frog(-1, 0), BAD);
        due("frog(36, 0)", x.frog(36, 0), BAD);
        due("girl(0)", x.girl(0), 0);
        due("girl(35)", x.girl(35), 1);
        due("frog(0, 0)", x.frog(0, 0), 0);
        due("frog(35, 0)", x.frog(35, 0), 1);
        for (int what = GIRL_PLACE; what <= FROG_PLACE; what += FROG_PLACE) {
            due("mend to -1, what " + what, x.mend(0, what, -1), VOID);
            due("mend to 36, what " + what, x.mend(0, what, 36), VOID);
            due("mend to 35, what " + what, x.mend(0, what, 35), 0);
            due("mend to 0, what " + what, x.mend(0, what, 0), 35);
        }
    }

    private static void girls() {
        told("GIRLS 0 .. 7, as they come:");
        due("none", x.count(0), 0);
        due("none is 0", x.of(0, GIRL_PLACE), VOID);
        for (int g = 0; g <= 7; g++) {
            due("girl " + g + " isn't there", x.later(0, g, 3), VOID);
            due("girl " + g, x.girl(30 - g), g);
            due("girl " + g + " is there", x.later(0, g, 3), 60);
            due("so many", x.count(0), g + 1);
        }
        due("a ninth", x.girl(0), FULL);
        due("none is 8", x.of(8, GIRL_PLACE), VOID);
        due("none is -1", x.of(-1, GIRL_PLACE), VOID);
        for (int g = 0; g <= 7; g++) {
            due("PLACE of " + g, x.of(g, GIRL_PLACE), 30 - g);
        }
    }

    private static void breath() {
        told("BREATH (0 .. 99; 60 at first)");
        x.girl(9);
        due("at first", x.of(0, BREATH), 60);
        due("100", x.mend(0, BREATH, 100), VOID);
        due("-1", x.mend(0, BREATH, -1), VOID);
        due("as it was", x.of(0, BREATH), 60);
        due("99", x.mend(0, BREATH, 99), 60);
        due("0", x.mend(0, BREATH, 0), 99);
        due("is 0", x.of(0, BREATH), 0);
    }

    private static void frogs() {
        told("FROGS 0 .. 7, as they come:");
        due("none", x.count(1), 0);
        due("none is 0", x.of(0, FROG_PLACE), VOID);
        for (int f = 0; f <= 7; f++) {
            due("frog " + f + " isn't there", x.loses(f), BAD);
            due("frog " + f, x.frog(30 - f, f), f);
            due("frog " + f + " is there", x.loses(f), 0);
            due("so many", x.count(1), f + 1);
        }
        due("a ninth", x.frog(0, 0), FULL);
        due("none is 8", x.of(8, FROG_PLACE), VOID);
        due("none is -1", x.of(-1, FROG_PLACE), VOID);
        for (int f = 0; f <= 7; f++) {
            due("PLACE of " + f, x.of(f, FROG_PLACE), 30 - f);
            due("KEEPS of " + f, x.of(f, KEEPS), f);
        }
    }

    private static void keeps() {
        told("KEEPS (0 .. 9: badly; 2 at first)");
        due("frog(0, -1)", x.frog(0, -1), BAD);
        due("frog(0, 10)", x.frog(0, 10), BAD);
        due("frog(0, 0)", x.frog(0, 0), 0);
        due("frog(0, 9)", x.frog(0, 9), 1);
        due("10", x.mend(0, KEEPS, 10), VOID);
        due("-1", x.mend(0, KEEPS, -1), VOID);
        due("9", x.mend(0, KEEPS, 9), 0);
        due("0", x.mend(0, KEEPS, 0), 9);
    }

    private static void owes() {
        told("OWES (-1: nobody, or a GIRL that is there; -1 at first)");
        x.frog(0, 0);
        due("at first", x.of(0, OWES), -1);
        due("nobody again", x.mend(0, OWES, -1), -1);
        due("-2", x.mend(0, OWES, -2), VOID);
        for (int g = 0; g <= 7; g++) {
            due("girl " + g + " isn't there", x.mend(0, OWES, g), VOID);
            x.girl(g);
            due("girl " + g + " is there", x.mend(0, OWES, g), g - 1);
        }
        due("no girl is 8", x.mend(0, OWES, 8), VOID);
        due("girl 7", x.of(0, OWES), 7);
        due("nobody", x.mend(0, OWES, -1), 7);
        due("owes nobody", x.marsh(0, 0), 0);
    }

    private static void held() {
        told("HELD (0 .. 99; 0 at first)");
        x.frog(0, 0);
        due("at first", x.of(0, HELD), 0);
        due("100", x.mend(0, HELD, 100), VOID);
        due("-1", x.mend(0, HELD, -1), VOID);
        due("99", x.mend(0, HELD, 99), 0);
        due("0", x.mend(0, HELD, 0), 99);
    }

    private static void twoAndHour() {
        told("TWO (0 .. 11; 5 at first), HOUR (0 .. 11; 0 at first).");
        due("TWO at first", x.of(0, TWO), 5);
        due("HOUR at first", x.of(0, HOUR), 0);
        for (int what = TWO; what <= HOUR; what++) {
            int was = x.of(0, what);
            due("12, what " + what, x.mend(0, what, 12), VOID);
            due("-1, what " + what, x.mend(0, what, -1), VOID);
            due("number 1, what " + what, x.mend(1, what, 3), VOID);
            due("number -1, what " + what, x.of(-1, what), VOID);
            due("11, what " + what, x.mend(0, what, 11), was);
            due("0, what " + what, x.mend(0, what, 0), 11);
            due("is 0, what " + what, x.of(0, what), 0);
        }
    }

    private static void less() {
        told("AN HOUR, FROGS by numbers: of each that OWES HELD is so much less");
        x.girl(0);
        for (int f = 0; f < 8; f++) {
            x.frog(35, f);
            x.mend(f, HELD, 10 * f);
            x.mend(f, OWES, f % 2 == 0 ? 0 : -1);
        }
        lawOf("k*3+1");
        due("nobody is BACK", x.hour(), 0);
        int[] held = {0, 10, 13, 30, 27, 50, 41, 70};
        for (int f = 0; f < 8; f++) {
            due("HELD of " + f, x.of(f, HELD), held[f]);
        }
        due("lost", x.led(2), 7 + 13 + 19);
        x.mend(4, HELD, 13);
        x.mend(6, HELD, 18);
        x.hour();
        due("just as much as he has", x.of(4, HELD), 0);
        due("one less than he would lose", x.of(6, HELD), 0);
        due("lost again", x.led(2), 39 + 7 + 13 + 18);
    }

    /** From every place to every other. */
    private static void steps() {
        told("if HOUR is TWO or more, he goes a step nearer to her (X first, then Y; there already: none)");
        for (int girl = 0; girl <= 35; girl++) {
            oneOwes(girl, 0, 0);
            x.mend(0, TWO, 0);
            for (int frog = 0; frog <= 35; frog++) {
                x.mend(0, FROG_PLACE, frog);
                x.mend(0, OWES, 0);
                int x6 = girl % 6 - frog % 6;
                int y6 = girl / 6 - frog / 6;
                int next = frog + (x6 != 0 ? Integer.signum(x6) : 6 * Integer.signum(y6));
                due("later from " + frog + " to " + girl, x.later(1, 0, 1), next);
                due("BACK from " + frog + " to " + girl, x.hour(), next == girl ? 1 : 0);
                due("from " + frog + " to " + girl, x.of(0, FROG_PLACE), next);
                due("OWES at " + next, x.of(0, OWES), next == girl ? -1 : 0);
            }
        }
        told("OWES (-1: nobody, or a GIRL that is there; -1 at first)");
        x.girl(0);
        x.frog(20, 0);
        x.mend(0, TWO, 0);
        x.hour();
        due("who OWES nobody stays", x.of(0, FROG_PLACE), 20);
    }

    private static void onlyFromTwo() {
        told("(both, the step and being BACK, only if HOUR is TWO or more)");
        for (int two = 0; two <= 11; two++) {
            oneOwes(0, 0, 5);
            x.mend(0, TWO, two);
            for (int hour = 0; hour <= 11; hour++) {
                for (int place = 0; place <= 2; place++) {
                    x.mend(0, HOUR, hour);
                    x.mend(0, FROG_PLACE, place);
                    x.mend(0, OWES, 0);
                    boolean goes = hour >= two;
                    String when = "HOUR " + hour + ", TWO " + two + ", PLACE " + place;
                    due("BACK at " + when, x.hour(), goes && place <= 1 ? 1 : 0);
                    due("PLACE behind " + when, x.of(0, FROG_PLACE), goes ? Math.max(0, place - 1) : place);
                }
            }
        }
    }

    private static void breathOfHer() {
        told("BREATH of her is HELD more (99 at most; what is above is lost), OWES -1, HELD 0.");
        int[] breath = {0, 1, 59, 60, 97, 98, 99};
        int[] held = {0, 1, 2, 38, 39, 40, 98, 99};
        for (int b : breath) {
            oneOwes(7, 7, 0);
            x.girl(7);
            x.mend(0, TWO, 0);
            for (int h : held) {
                x.mend(0, BREATH, b);
                x.mend(0, OWES, 0);
                x.mend(0, HELD, h);
                due("BACK with " + h + " to " + b, x.hour(), 1);
                due("BREATH " + b + " and " + h, x.of(0, BREATH), Math.min(99, b + h));
                due("OWES", x.of(0, OWES), -1);
                due("HELD", x.of(0, HELD), 0);
            }
            due("of the other", x.of(1, BREATH), 60);
            due("by THE LAW nothing is lost", x.led(2), 0);
        }
        oneOwes(7, 7, 20);
        x.girl(8);
        x.mend(0, TWO, 0);
        for (int f = 1; f < 8; f++) {
            x.frog(8, 0);
            x.mend(f, OWES, f % 2);
            x.mend(f, HELD, f);
        }
        due("all at once", x.hour(), 8);
        due("BREATH of 0", x.of(0, BREATH), 60 + 20 + 2 + 4 + 6);
        due("BREATH of 1", x.of(1, BREATH), 60 + 1 + 3 + 5 + 7);
    }

    private static void behindAll() {
        told("HOUR is one more behind all, behind 11: 0.");
        for (int h = 0; h <= 11; h++) {
            x = new FrogBreath();
            x.girl(0);
            x.mend(0, HOUR, h);
            x.mend(0, TWO, Math.min(11, h + 1));
            for (int f = 0; f < 8; f++) {
                x.frog(0, 0);
                x.mend(f, OWES, 0);
                x.mend(f, HELD, 50);
            }
            lawOf("h");
            due("BACK at " + h, x.hour(), h == 11 ? 8 : 0);
            due("HOUR behind " + h, x.of(0, HOUR), h == 11 ? 0 : h + 1);
            due("lost by all at " + h, x.led(2), 8 * h);
        }
        x = new FrogBreath();
        for (int i = 1; i <= 40; i++) {
            x.hour();
            due("HOUR behind " + i, x.of(0, HOUR), i % 12);
            due("hours behind " + i, x.led(0), i);
        }
    }

    private static FrogBreath many() {
        FrogBreath marsh = new FrogBreath();
        marsh.girl(0);
        marsh.girl(21);
        marsh.frog(35, 1);
        marsh.frog(8, 0);
        marsh.frog(2, 9);
        marsh.frog(30, 3);
        marsh.lends(0, 45);
        marsh.lends(11, 60);
        marsh.mend(2, HELD, 33);
        marsh.lends(3, 15);
        marsh.mend(0, TWO, 10);
        marsh.mend(0, HOUR, 10);
        feedAll(marsh, "f=0?h=11;d/3+(b>30)*h/4");
        marsh.law();
        return marsh;
    }

    /** What is thought is what comes to be, hour by hour, twelve by twelve. */
    private static void behind() {
        told("behind n (0 .. 40) hours: HELD, PLACE, OWES of a FROG; BREATH of a GIRL; which FROGS OWE (bits); HELD "
                + "of all.");
        for (int n = 0; n <= 40; n++) {
            FrogBreath now = many();
            FrogBreath then = many();
            for (int i = 0; i < n; i++) {
                then.hour();
            }
            int owing = 0;
            int held = 0;
            for (int f = 0; f < 4; f++) {
                due("HELD of " + f + " behind " + n, now.later(n, f, 0), then.of(f, HELD));
                due("PLACE of " + f + " behind " + n, now.later(n, f, 1), then.of(f, FROG_PLACE));
                due("OWES of " + f + " behind " + n, now.later(n, f, 2), then.of(f, OWES));
                owing += then.of(f, OWES) == -1 ? 0 : 1 << f;
                held += then.of(f, HELD);
            }
            due("BREATH of 0 behind " + n, now.later(n, 0, 3), then.of(0, BREATH));
            due("BREATH of 1 behind " + n, now.later(n, 1, 3), then.of(1, BREATH));
            due("which OWE behind " + n, now.marsh(n, 0), owing);
            due("HELD of all behind " + n, now.marsh(n, 1), held);
        }
        x = many();
        hold("some OWE behind 40", x.marsh(40, 0) > 0);
        due("later(-1)", x.later(-1, 0, 0), VOID);
        due("later(41)", x.later(41, 0, 0), VOID);
        due("marsh(-1)", x.marsh(-1, 0), BAD);
        due("marsh(41)", x.marsh(41, 0), BAD);
        oneOwes(0, 35, 99);
        x.mend(0, TWO, 11);
        lawOf("h");
        int[] held = {99, 99, 98, 96, 93, 89, 84, 78, 71, 63, 54, 44, 33, 33, 32, 30, 27, 23, 18, 12, 5, 0, 0};
        for (int n = 0; n < held.length; n++) {
            due("HELD behind " + n, x.later(n, 0, 0), held[n]);
        }
        x.mend(0, HELD, 0);
        for (int n = 0; n <= 40; n++) {
            due("PLACE behind " + n, x.later(n, 0, 1), n < 12 ? 35 : n < 24 ? 34 : n < 36 ? 33 : 32);
        }
    }

    /** A step is gone at 11 alone: BACK is told to the hour by the hour now and how far off he is. */
    private static int byElevens(int hour, int steps) {
        return 12 - hour + 12 * (Math.max(1, steps) - 1);
    }

    private static void backWhen() {
        told("BACK: behind how many hours (0 .. 40) a FROG owes nobody; NOT;");
        for (int steps = 0; steps <= 5; steps++) {
            oneOwes(0, steps, 9);
            x.mend(0, TWO, 11);
            for (int hour = 0; hour <= 11; hour++) {
                x.mend(0, HOUR, hour);
                int hours = byElevens(hour, steps);
                due(steps + " steps, at " + hour, x.backWhen(0), hours <= 40 ? hours : NOT);
            }
        }
        x.mend(0, OWES, -1);
        due("OWES nobody", x.backWhen(0), 0);
        due("no frog 1", x.backWhen(1), BAD);
    }

    private static void backWhenAll() {
        told("behind how many none does; NOT.");
        due("no frogs", x.backWhen(-1), 0);
        x.girl(0);
        for (int f = 0; f < 8; f++) {
            x.frog(f / 2, 0);
        }
        due("none OWES", x.backWhen(-1), 0);
        x.mend(0, TWO, 11);
        for (int f = 0; f < 8; f++) {
            x.mend(f, OWES, 0);
            due("the last of " + f, x.backWhen(-1), byElevens(0, f / 2));
        }
        x.mend(7, FROG_PLACE, 4);
        x.mend(0, HOUR, 8);
        due("behind 40", x.backWhen(-1), 40);
        x.mend(0, HOUR, 7);
        due("behind 41", x.backWhen(-1), NOT);
        due("another is", x.backWhen(6), 29);
        due("frog -2", x.backWhen(-2), BAD);
        due("frog 8", x.backWhen(8), BAD);
    }

    private static void loan() {
        told("A LOAN in thought, of x (1 .. 99) from a GIRL (whatever BREATH) to a FROG (as if he OWED nobody, from "
                + "his PLACE) now");
        x.girl(0);
        x.girl(35);
        x.frog(35, 0);
        x.frog(2, 0);
        lawOf("1");
        due("x 0", x.loan(1, 0, 0), BAD);
        due("x 1", x.loan(1, 1, 0), 0);
        due("x 99", x.loan(1, 99, 0), 99 - 7);
        due("x 100", x.loan(1, 100, 0), BAD);
        x.mend(0, BREATH, 0);
        due("BREATH 0", x.loan(1, 99, 0), 92);
        x.mend(0, BREATH, 99);
        due("BREATH 99", x.loan(1, 99, 0), 92);
        x.mend(1, OWES, 1);
        x.mend(1, HELD, 99);
        due("OWES another", x.loan(1, 30, 0), 23);
        due("OWES another, behind", x.loan(1, 30, 1), 7);
        due("still OWES another", x.of(1, OWES), 1);
        due("still holds hers", x.of(1, HELD), 99);
        due("BREATH is hers", x.of(0, BREATH), 99);
        x.mend(1, FROG_PLACE, 4);
        due("from another PLACE", x.loan(1, 30, 1), 9);
        x.mend(0, HOUR, 3);
        due("at another hour", x.loan(1, 30, 1), 6);
        x.mend(0, HOUR, 5);
        due("at TWO", x.loan(1, 30, 1), 4);
        due("from the other girl", x.loan(11, 30, 1), 6);
        x.mend(0, HOUR, 11);
        due("behind 11 he waits", x.loan(1, 30, 1), 9);
        due("frog 0 is at her PLACE", x.loan(10, 30, 1), 1);
        due("gf -1", x.loan(-1, 30, 1), BAD);
        due("gf 2", x.loan(2, 30, 1), BAD);
        due("gf 9", x.loan(9, 30, 1), BAD);
        due("gf 20", x.loan(20, 30, 1), BAD);
    }

    private static void within24() {
        told("how much he gives BACK within 24 hours; behind how many hours; NOT (both): he isn't BACK by then.");
        for (int steps = 0; steps <= 4; steps++) {
            x = new FrogBreath();
            x.girl(0);
            x.frog(steps, 0);
            lawOf("h=11");
            x.mend(0, TWO, 11);
            for (int hour = 0; hour <= 11; hour++) {
                x.mend(0, HOUR, hour);
                int hours = byElevens(hour, steps);
                boolean back = hours <= 24;
                due("how much from " + steps + " at " + hour, x.loan(0, 50, 0), back ? 50 - Math.max(1, steps) : NOT);
                due("behind how many from " + steps + " at " + hour, x.loan(0, 50, 1), back ? hours : NOT);
                due("nothing from " + steps + " at " + hour, x.loan(0, 1, 0), back ? 0 : NOT);
                due("nothing, behind how many from " + steps + " at " + hour, x.loan(0, 1, 1), back ? hours : NOT);
            }
        }
    }

    /** All pairs of a full marsh: girl g and frog f lose g + f an hour, a step each. */
    private static void pairs() {
        told("gf: 10 times a GIRL, and a FROG");
        for (int i = 0; i < 8; i++) {
            x.girl(4 * i);
            x.frog(35 - 5 * i, 0);
        }
        x.mend(0, TWO, 0);
        lawOf("g+f");
        for (int g = 0; g < 8; g++) {
            for (int f = 0; f < 8; f++) {
                int gf = 10 * g + f;
                int hours = Math.max(1, far(4 * g, 35 - 5 * f));
                due("loan of " + gf, x.loan(gf, 99, 0), Math.max(0, 99 - hours * (g + f)));
                due("hours of " + gf, x.loan(gf, 99, 1), hours);
                due("5 behind 1 of " + gf, x.least(gf, 15), hours > 1 ? 50 + g + f : NOT);
            }
        }
        for (int g = 0; g < 8; g++) {
            for (int f = 0; f < 8; f++) {
                x.mend(f, OWES, -1);
                due("lends " + f + " to " + g, x.lends(10 * g + f, 1), 59 - f);
                due("who OWES " + g, x.of(f, OWES), g);
            }
        }
    }

    private static void best() {
        told("NOT: none is BACK by then (0 that comes BACK is some)");
        x.girl(0);
        due("no frogs", x.best(0, 50, 0), NOT);
        due("no frogs, how much", x.best(0, 50, 1), NOT);
        x.mend(0, TWO, 11);
        x.frog(3, 0);
        due("none by 24", x.best(0, 50, 0), NOT);
        due("none by 24, how much", x.best(0, 50, 1), NOT);
        x.mend(0, HOUR, 11);
        due("none at 25", x.best(0, 50, 0), NOT);
        x.frog(2, 9);
        due("0 is some", x.best(0, 50, 0), 1);
        due("0 is some, how much", x.best(0, 50, 1), 0);
        due("another girl", x.best(1, 50, 0), BAD);
        due("x 0", x.best(0, 0, 0), BAD);
        due("x 1", x.best(0, 1, 1), 0);
        due("x 99", x.best(0, 99, 0), 1);
        due("x 100", x.best(0, 100, 0), BAD);
    }

    private static void bestOfLikeOnes() {
        told("BEST FROG: by whom most of x comes BACK to a GIRL (of like ones the least): which; how much");
        x.girl(0);
        x.girl(35);
        x.mend(0, TWO, 0);
        for (int f = 0; f < 8; f++) {
            x.frog(3, 1);
        }
        due("of eight alike", x.best(0, 50, 0), 0);
        due("of eight alike, how much", x.best(0, 50, 1), 47);
        for (int f = 0; f < 7; f++) {
            x.mend(f, KEEPS, 2);
        }
        due("the last is better", x.best(0, 50, 0), 7);
        x.mend(4, KEEPS, 1);
        due("of two the least", x.best(0, 50, 0), 4);
        x.mend(6, FROG_PLACE, 34);
        due("for the other girl", x.best(1, 50, 0), 6);
        due("for the other girl, how much", x.best(1, 50, 1), 48);
    }

    private static void dealt() {
        told("DEALT: each GIRL lends x to one FROG at most, none to two GIRLS, so that most comes BACK together: how "
                + "much");
        due("nobody", x.dealt(50, -1), 0);
        due("no girl 0", x.dealt(50, 0), BAD);
        x.frog(0, 0);
        due("no girls", x.dealt(50, -1), 0);
        x.girl(0);
        due("one", x.dealt(50, -1), 48);
        due("x 0", x.dealt(0, -1), BAD);
        due("x 1", x.dealt(1, -1), 0);
        due("x 99", x.dealt(99, -1), 97);
        due("x 100", x.dealt(100, -1), BAD);
        due("girl -2", x.dealt(50, -2), BAD);
        due("girl 1", x.dealt(50, 1), BAD);
        x = new FrogBreath();
        lawOf("1+g*f");
        x.mend(0, TWO, 0);
        for (int i = 0; i < 8; i++) {
            x.girl(i);
            x.frog(i, 0);
            x.mend(0, BREATH, 0);
        }
        // girl g by frog f: 1 + g f an hour, as often as they are apart, once at least; the crossed pairs lose most
        due("eight by eight", x.dealt(99, -1), mostBack(99));
        due("eight by eight, x 30", x.dealt(30, -1), mostBack(30));
        due("eight by eight, x 5", x.dealt(5, -1), mostBack(5));
        due("girl 8", x.dealt(99, 8), BAD);
        hold("girl 7 has a frog or none", x.dealt(99, 7) >= 0);
    }

    private static int mostBack(int lent) {
        return mostBack(lent, 0, 0);
    }

    private static int mostBack(int lent, int girl, int taken) {
        if (girl == 8) {
            return 0;
        }
        int most = mostBack(lent, girl + 1, taken);
        for (int f = 0; f < 8; f++) {
            if ((taken >> f & 1) == 0) {
                int loss = Math.min(20, 1 + girl * f) * Math.max(1, far(girl, f));
                most = Math.max(most, Math.max(0, lent - loss) + mostBack(lent, girl + 1, taken | 1 << f));
            }
        }
        return most;
    }

    private static void dealtOfLikeOnes() {
        told("which FROG a GIRL lends to (9: none; only where some comes BACK; of like ones the first by GIRLS, none "
                + "last)");
        for (int i = 0; i < 8; i++) {
            x.girl(14);
        }
        for (int g = 0; g < 8; g++) {
            due("no frogs", x.dealt(50, g), 9);
        }
        for (int i = 0; i < 3; i++) {
            x.frog(14, 0);
        }
        for (int g = 0; g < 8; g++) {
            due("three frogs, girl " + g, x.dealt(50, g), g < 3 ? g : 9);
        }
        for (int i = 3; i < 8; i++) {
            x.frog(14, 0);
        }
        for (int g = 0; g < 8; g++) {
            due("eight frogs, girl " + g, x.dealt(50, g), g);
        }
        lawOf("g=3&f=5?1;20");
        x.mend(0, TWO, 0);
        for (int g = 0; g < 8; g++) {
            due("1 of 2 comes back to girl 3 alone", x.dealt(2, g), g == 3 ? 5 : 9);
        }
        due("0 of 1 comes back", x.dealt(1, 3), 9);
        lawOf("g<2&f=0|g>2?0;20");
        for (int g = 0; g < 8; g++) {
            due("none of 20 comes back to some", x.dealt(20, g), g == 0 ? 0 : g < 3 ? 9 : g - 2);
        }
        lawOf("g=0&f<2|g=1&f=0?0;20");
        due("girl 0 leaves him to girl 1", x.dealt(20, 0), 1);
        due("girl 1 has him", x.dealt(20, 1), 0);
        due("girl 2 has none", x.dealt(20, 2), 9);
        due("both come back", x.dealt(20, -1), 40);
        x.mend(0, TWO, 11);
        lawOf("0");
        for (int g = 1; g < 8; g++) {
            x.mend(g, GIRL_PLACE, 35);
        }
        due("NOT by 24 is nothing", x.dealt(20, 1), 9);
        due("the nearer one", x.dealt(20, 0), 0);
        due("one alone", x.dealt(20, -1), 20);
    }

    private static void sings() {
        told("SINGS: a FROG sings as loud as HELD by 10 (cut).");
        x.girl(0);
        x.frog(35, 0);
        for (int v = 0; v <= 9; v++) {
            due("as loud as " + v + " now", x.least(0, v), v == 0 ? 1 : 10 * v);
        }
        lawOf("9");
        for (int v = 0; v <= 8; v++) {
            due("as loud as " + v + " behind 1", x.least(0, 10 + v), v == 0 ? 1 : 10 * v + 9);
        }
        due("9 behind 1", x.least(0, 19), 99);
        lawOf("10");
        due("9 behind 1 would need 100", x.least(0, 19), NOT);
        due("8 behind 1", x.least(0, 18), 90);
    }

    private static void least() {
        told("LEAST LENT: the least x (1 .. 99) by which a FROG, a LOAN of a GIRL made now, sings v (0 .. 9) or "
                + "louder behind n (0 .. 20) hours (BACK: 0); NOT.");
        x.girl(0);
        x.frog(3, 0);
        x.mend(0, OWES, 0);
        x.mend(0, HELD, 99);
        due("nv -1", x.least(0, -1), BAD);
        due("nv 210", x.least(0, 210), BAD);
        due("nv 209", x.least(0, 209), NOT);
        due("nv 200", x.least(0, 200), 1);
        lawOf("0");
        for (int n = 0; n <= 20; n++) {
            due("0 behind " + n, x.least(0, 10 * n), 1);
            due("1 behind " + n, x.least(0, 10 * n + 1), n < 8 ? 10 : NOT);
            due("9 behind " + n, x.least(0, 10 * n + 9), n < 8 ? 90 : NOT);
        }
        x.mend(0, FROG_PLACE, 35);
        x.mend(0, TWO, 11);
        due("9 behind 20", x.least(0, 209), 90);
        lawOf("b/20+(h=11)");
        due("by what is lost", x.least(0, 14), 42);
        lawOf("b>29&b<95?20;0");
        due("the least, though more sing less", x.least(0, 12), 20);
        due("more sing more", x.least(0, 16), 80);
        due("the rich", x.least(0, 18), 95);
        due("gf 1", x.least(1, 0), BAD);
        due("gf 10", x.least(10, 0), BAD);
        due("gf -1", x.least(-1, 0), BAD);
    }
}
