/** Bars, stops, books, rings and turns (part 3 of the Terms), sentence by sentence. */
public final class BookTests extends Checks {
    public static void main(String[] args) {
        bars();
        together();
        beats();
        stops();
        stopsOfLikeOnes();
        book();
        bookOfHours();
        judged();
        kept();
        whose();
        alike();
        ring();
        turns();
        turnsWithin24();
        finish();
    }

    private static void bars() {
        told("BARS: a FROG's is KEEPS and 1 beats long; all begin together");
        for (int keeps = 0; keeps <= 9; keeps++) {
            x = new FrogBreath();
            x.frog(0, keeps);
            due("KEEPS " + keeps, x.bars(1, -1), keeps + 1);
            for (int n = 0; n <= 20; n++) {
                due("KEEPS " + keeps + " at " + n, x.bars(1, n), n % (keeps + 1) == 0 ? 1 : 0);
            }
        }
    }

    private static void together() {
        told("of told FROGS (bits): behind how many beats (1 on) all begin a bar together next (none told: 1)");
        due("no frogs", x.bars(0, -1), 1);
        due("no frog 0", x.bars(1, -1), BAD);
        for (int f = 0; f < 8; f++) {
            x.frog(0, f + 2);
            due("none told of " + (f + 1), x.bars(0, -1), 1);
            due("all told of " + (f + 1), x.bars((2 << f) - 1, 0), f + 1);
            due("one too many of " + (f + 1), x.bars(2 << f, -1), BAD);
        }
        due("3 .. 10", x.bars(255, -1), 2520);
        due("3 and 10", x.bars(129, -1), 30);
        due("-1", x.bars(-1, -1), BAD);
        due("MIN", x.bars(MIN, -1), BAD);
        due("MAX", x.bars(MAX, -1), BAD);
        for (int a = 1; a <= 10; a++) {
            for (int b = 1; b <= 10; b++) {
                x = new FrogBreath();
                x.frog(0, a - 1);
                x.frog(0, b - 1);
                int both = a;
                while (both % b != 0) {
                    both += a;
                }
                due(a + " and " + b, x.bars(3, -1), both);
                due(a + " alone", x.bars(1, -1), a);
                due(b + " alone", x.bars(2, -1), b);
            }
        }
    }

    private static void beats() {
        told("how many of them begin one at beat n (0 .. 9999)");
        for (int f = 0; f < 8; f++) {
            x.frog(0, f);
        }
        due("beat -2", x.bars(255, -2), BAD);
        due("beat 10000", x.bars(255, 10000), BAD);
        due("beat MIN", x.bars(255, MIN), BAD);
        due("beat MAX", x.bars(255, MAX), BAD);
        int[] at = {0, 1, 2, 6, 24, 840, 9998, 9999};
        for (int n : at) {
            int all = 0;
            for (int f = 0; f < 8; f++) {
                int begins = n % (f + 1) == 0 ? 1 : 0;
                due("frog " + f + " at " + n, x.bars(1 << f, n), begins);
                all += begins;
            }
            due("all at " + n, x.bars(255, n), all);
            due("none at " + n, x.bars(0, n), 0);
        }
    }

    private static void stops() {
        told("STOPS: the fewest PLACES of FROGS from which each FROG is FAR no more than x (0 .. 10): how many");
        for (int i = 0; i <= 10; i++) {
            due("no frogs, x " + i, x.stops(i, 0), 0);
            due("no frogs, which, x " + i, x.stops(i, 1), 0);
        }
        x.frog(0, 0);
        due("one", x.stops(0, 0), 1);
        due("one, which", x.stops(0, 1), 1);
        x.frog(35, 0);
        due("10 apart, x 9", x.stops(9, 0), 2);
        due("10 apart, x 9, which", x.stops(9, 1), 3);
        due("10 apart, x 10", x.stops(10, 0), 1);
        due("10 apart, x 10, which", x.stops(10, 1), 1);
        due("x -1", x.stops(-1, 0), BAD);
        due("x 11", x.stops(11, 0), BAD);
        due("what -1", x.stops(0, -1), BAD);
        due("what 2", x.stops(0, 2), BAD);
        x = new FrogBreath();
        int[] row = {0, 1, 2, 3, 4, 5, 11, 17};
        for (int place : row) {
            x.frog(place, 0);
        }
        int[] many = {8, 3, 2, 2, 1, 1, 1, 1, 1, 1, 1};
        int[] which = {255, 1 + 8 + 64, 1 + 32, 1 + 16, 8, 4, 2, 1, 1, 1, 1};
        for (int i = 0; i <= 10; i++) {
            due("by the border, x " + i, x.stops(i, 0), many[i]);
            due("by the border, which, x " + i, x.stops(i, 1), which[i]);
        }
    }

    private static void stopsOfLikeOnes() {
        told("which (bits of FROGS whose PLACES these are; of like ones the least)");
        for (int f = 0; f < 8; f++) {
            x.frog(21, 0);
        }
        due("all at one PLACE", x.stops(0, 0), 1);
        due("all at one PLACE, which", x.stops(0, 1), 1);
        for (int f = 4; f < 8; f++) {
            x.mend(f, FROG_PLACE, 22);
        }
        due("at two", x.stops(0, 0), 2);
        due("at two, which", x.stops(0, 1), 17);
        due("either does", x.stops(1, 1), 1);
        x.mend(0, FROG_PLACE, 0);
        due("0 and one of the others", x.stops(1, 1), 3);
    }

    /** A frog who loses 1 an hour from 99 on and comes nowhere by 41. */
    private static void oneByOne() {
        x = new FrogBreath();
        x.girl(0);
        x.frog(35, 0);
        x.mend(0, OWES, 0);
        x.mend(0, HELD, 99);
        x.mend(0, TWO, 11);
        lawOf("1");
    }

    private static void fill(int size) {
        x.row(0, 0, size);
        for (int i = 0; i < size; i++) {
            x.put(0, i, 99 - i);
        }
    }

    private static void book() {
        told("BOOK: a ROW of bytes on a SHELF: HELD of a FROG behind 0, 1, 2 .. hours (100: not told; 41 at most "
                + "count)");
        int[] sizes = {0, 1, 2, 40, 41, 42, 60};
        for (int size : sizes) {
            for (int i = 0; i < size; i++) {
                oneByOne();
                fill(size);
                due("all so, of " + size, x.judge(0, 0), NOT);
                due("all so, KEPT, of " + size, x.fits(0, 0, 0), 1023);
                due("all so, WHOSE, of " + size, x.fits(0, 0, 1), size == 1 ? 257 : 1);
                x.put(0, i, i % 2 == 0 ? 98 - i : 101);
                due(i + " isn't so, of " + size, x.judge(0, 0), i <= 40 ? i : NOT);
                due(i + " isn't so, KEPT, of " + size, x.fits(0, 0, 0), i <= 40 ? 0 : 1023);
                x.put(0, i, 100);
                due(i + " isn't told, of " + size, x.judge(0, 0), NOT);
                due(i + " isn't told, KEPT, of " + size, x.fits(0, 0, 0), 1023);
            }
        }
        oneByOne();
        x.row(0, 0, 0);
        due("of no elements", x.judge(0, 0), NOT);
        due("of no elements, KEPT", x.fits(0, 0, 0), 1023);
        due("of no elements, WHOSE", x.fits(0, 0, 1), 257);
        int[] told = {-128, -1, 0, 98, 101, 127};
        for (int v : told) {
            bytes(0, v);
            due(v + " is told", x.judge(0, 0), 0);
        }
        bytes(0, 256 + 99);
        due("by its lowest bits", x.judge(0, 0), NOT);
        bytes(0, 256 + 100);
        due("not told, by its lowest bits", x.judge(0, 0), NOT);
    }

    /** By a law of hours, steps and places: what is thought of him, told in a book, is so of him. */
    private static void bookOfHours() {
        told("HELD of a FROG behind 0, 1, 2 .. hours");
        x.girl(0);
        x.girl(28);
        for (int f = 0; f < 3; f++) {
            x.frog(35 - 7 * f, 2 + f);
            x.mend(f, OWES, f % 2);
            x.mend(f, HELD, 80 + f);
        }
        x.mend(0, HOUR, 9);
        x.mend(0, TWO, 10);
        lawOf("h%5/2*k+(d=4)*7-g");
        for (int f = 0; f < 3; f++) {
            x.row(f, 0, 41);
            for (int i = 0; i <= 40; i++) {
                x.put(f, i, x.later(i, f, 0));
            }
            due("of " + f, x.judge(f, f), NOT);
            due("KEPT by his own, " + f, x.fits(f, f, 0), 1 << 2 + f);
            due("WHOSE he is, " + f, x.fits(f, f, 1), 1 << f % 2);
            hold("not of another than " + f, x.judge(f, (f + 1) % 3) == 0);
        }
    }

    private static void judged() {
        told("JUDGED: the first that is not so; NOT.");
        oneByOne();
        due("bare", x.judge(0, 0), NOTHING);
        fill(9);
        x.put(0, 3, 7);
        x.put(0, 6, 7);
        due("the first of two", x.judge(0, 0), 3);
        x.put(0, 3, 100);
        due("the other", x.judge(0, 0), 6);
        x.put(0, 6, 93);
        due("none", x.judge(0, 0), NOT);
        due("shelf -1", x.judge(-1, 0), BAD);
        due("shelf 6", x.judge(6, 0), BAD);
        due("frog -1", x.judge(0, -1), BAD);
        due("frog 1", x.judge(0, 1), BAD);
        for (int sort = 1; sort <= 4; sort++) {
            x.row(5, sort, 3);
            due("sort " + sort, x.judge(5, 0), OTHER_KIND);
        }
        x.body(0);
        x.keep(5, 0);
        due("a REED", x.judge(5, 0), OTHER_KIND);
        due("a REED, frog 1", x.judge(5, 1), BAD);
        x.frog(0, 0);
        bytes(5, 0, 0, 0, 0);
        due("who OWES nobody", x.judge(5, 1), NOT);
        x.mend(1, HELD, 5);
        due("who OWES nobody and holds some", x.judge(5, 1), 0);
        bytes(5, 5, 5, 5, 5);
        due("keeps it", x.judge(5, 1), NOT);
    }

    private static void kept() {
        told("KEPT: by which KEEPS of his (bits 0 .. 9) all is so.");
        oneByOne();
        lawOf("k");
        for (int keeps = 0; keeps <= 9; keeps++) {
            bytes(0, 99, 99 - keeps, 99 - 2 * keeps);
            due("by " + keeps, x.fits(0, 0, 0), 1 << keeps);
            bytes(0, 100, 100, 99 - 2 * keeps);
            due("by the last of " + keeps, x.fits(0, 0, 0), 1 << keeps);
        }
        bytes(0, 99, 89);
        due("by 10", x.fits(0, 0, 0), 0);
        bytes(0, 99, 100);
        due("by all", x.fits(0, 0, 0), 1023);
        lawOf("k/5*7");
        bytes(0, 99, 92);
        due("by five of them", x.fits(0, 0, 0), 992);
        due("as he keeps", x.of(0, KEEPS), 0);
        due("no change", x.count(3), 3);
        due("what -1", x.fits(0, 0, -1), BAD);
        due("what 2", x.fits(0, 0, 2), BAD);
    }

    private static void whose() {
        told("WHOSE: by which OWES of his (bits of GIRLS; 256: nobody).");
        x.frog(0, 0);
        x.mend(0, HELD, 99);
        bytes(0, 99, 99, 99);
        due("no girls", x.fits(0, 0, 1), 256);
        bytes(0, 99, 98);
        due("no girls, not so", x.fits(0, 0, 1), 0);
        lawOf("g+1");
        for (int g = 0; g <= 7; g++) {
            bytes(0, 99, 98 - g);
            due("girl " + g + " isn't there", x.fits(0, 0, 1), 0);
            x.girl(35 - g);
            due("of girl " + g, x.fits(0, 0, 1), 1 << g);
        }
        bytes(0, 99, 100);
        due("of all, or nobody", x.fits(0, 0, 1), 511);
        bytes(0, 99, 99);
        due("of nobody", x.fits(0, 0, 1), 256);
        x.mend(0, FROG_PLACE, 30);
        x.mend(0, TWO, 0);
        bytes(0, 100, 100, 0, 0);
        due("who would have all back behind 2", x.fits(0, 0, 1), 8 + 16 + 32);
        due("whose he is", x.of(0, OWES), -1);
        due("bare", x.fits(1, 0, 1), NOTHING);
        x.row(1, 4, 1);
        due("booleans", x.fits(1, 0, 1), OTHER_KIND);
    }

    private static void twoFrogs(int girlPlace, int frogPlace) {
        x = new FrogBreath();
        x.girl(girlPlace);
        for (int f = 0; f < 2; f++) {
            x.frog(frogPlace, 0);
            x.mend(f, OWES, 0);
            x.mend(f, HELD, 50);
        }
        x.mend(0, TWO, 11);
    }

    private static void alike() {
        told("TOLD APART: how many pairs of FROGS would hold as much, hour by hour for 12 hours from now.");
        for (int f = 0; f <= 8; f++) {
            due(f + " frogs", x.alike(), f * (f - 1) / 2);
            x.frog(0, 0);
        }
        for (int hour = 0; hour <= 11; hour++) {
            twoFrogs(0, 35);
            feedAll(x, "f*(h=" + hour + ")");
            x.law();
            for (int now = 0; now <= 11; now++) {
                x.mend(0, HOUR, now);
                due("apart by HOUR " + hour + " from " + now, x.alike(), 0);
            }
        }
        twoFrogs(0, 35);
        lawOf("f*(h=0)*(d=9)");
        due("apart behind 13", x.alike(), 1);
        x.mend(0, HOUR, 1);
        due("apart behind 12", x.alike(), 0);
        x.mend(0, HOUR, 11);
        due("apart behind 2", x.alike(), 0);
        lawOf("20");
        x.mend(0, HELD, 20);
        x.mend(1, HELD, 19);
        due("apart now alone", x.alike(), 0);
        x.mend(1, HELD, 20);
        due("as much", x.alike(), 1);
        x.mend(1, OWES, -1);
        due("one OWES nobody", x.alike(), 0);
        x.mend(0, OWES, -1);
        due("both OWE nobody", x.alike(), 1);
    }

    private static void ring() {
        told("how many are in the ring one comes to by these from a told one; NOT: there is but one.");
        due("none", x.ring(0), BAD);
        x.girl(0);
        due("but one", x.ring(0), NOT);
        due("girl 1", x.ring(1), BAD);
        int[] places = {35, 34, 32, 29, 5, 1, 0};
        for (int g = 0; g < places.length; g++) {
            x.girl(places[g]);
            for (int from = 0; from <= g + 1; from++) {
                due("of " + (g + 2) + ", from " + from, x.ring(from), 2);
            }
        }
        due("girl 8", x.ring(8), BAD);
        due("girl -1", x.ring(-1), BAD);
    }

    /** BACK behind TWO and one hour more for the steps; KEEPS is lost in each. */
    private static int comesBack(int two, int keeps) {
        return Math.max(0, 99 - keeps * (two + 1));
    }

    private static void turns() {
        told("BY TURNS: prince and reed, n (1 .. 5) times in all, the prince first: TWO one less (0 at least), or "
                + "nothing; the reed: KEEPS of a told FROG one more (9 at most), or nothing");
        for (int two = 0; two <= 11; two++) {
            x = new FrogBreath();
            x.girl(0);
            x.frog(1, 0);
            x.mend(0, OWES, 0);
            x.mend(0, HELD, 99);
            lawOf("k");
            x.mend(0, TWO, two);
            for (int keeps = 0; keeps <= 9; keeps++) {
                x.mend(0, KEEPS, keeps);
                for (int n = 1; n <= 5; n++) {
                    int princes = (n + 1) / 2;
                    int worst = Math.min(9, keeps + n / 2);
                    int doing = comesBack(Math.max(0, two - princes), worst);
                    int nothing = comesBack(Math.max(0, two - princes + 1), worst);
                    String when = "TWO " + two + ", KEEPS " + keeps + ", n " + n;
                    due(when, x.byTurns(0, n, 0), doing);
                    due("does, " + when, x.byTurns(0, n, 1), doing > nothing && two > 0 ? 1 : 0);
                }
                due("n 0", x.byTurns(0, 0, 0), BAD);
                due("n 6", x.byTurns(0, 6, 0), BAD);
            }
            due("TWO stays", x.of(0, TWO), two);
            due("KEEPS stays", x.of(0, KEEPS), 9);
        }
        due("frog -1", x.byTurns(-1, 1, 0), BAD);
        due("frog 1", x.byTurns(1, 1, 0), BAD);
        due("what -1", x.byTurns(0, 1, -1), BAD);
        due("what 2", x.byTurns(0, 1, 2), BAD);
    }

    private static void turnsWithin24() {
        told("behind them the prince wants what that FROG gives BACK within 24 hours (none: 0) most, the reed least: "
                + "that, if both do their best; whether the prince does first (1, 0; of like ones 0).");
        x.girl(0);
        x.frog(4, 0);
        x.mend(0, HELD, 40);
        lawOf("0");
        x.mend(0, TWO, 11);
        due("OWES nobody", x.byTurns(0, 1, 0), 0);
        due("OWES nobody: does nothing", x.byTurns(0, 1, 1), 0);
        x.mend(0, OWES, 0);
        due("BACK at 24, if TWO is 10", x.byTurns(0, 1, 0), 40);
        due("so he does", x.byTurns(0, 1, 1), 1);
        x.mend(0, FROG_PLACE, 5);
        due("not by 24", x.byTurns(0, 1, 0), 0);
        due("it's all the same", x.byTurns(0, 1, 1), 0);
        due("by two turns of his", x.byTurns(0, 3, 0), 40);
        due("he needs both", x.byTurns(0, 3, 1), 1);
        x.mend(0, FROG_PLACE, 4);
        due("he needs one of two", x.byTurns(0, 3, 0), 40);
        due("the other will do", x.byTurns(0, 3, 1), 0);
        lawOf("k>0?0;h=10");
        due("keeping worse may lose less: the reed does nothing", x.byTurns(0, 2, 0), 38);
    }
}
