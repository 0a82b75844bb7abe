/** Nights drawn, deeds, changes and the image (part 4 of the Terms), sentence by sentence. */
public final class DeedTests extends Checks {
    public static void main(String[] args) {
        junes();
        carts();
        drawnBreath();
        hours();
        lends();
        over();
        led();
        changes();
        laterChanges();
        forty();
        deedsAreNone();
        image();
        laidBack();
        finish();
    }

    /** So many frogs, of whom the even ones OWE; nobody comes BACK within 40 hours. */
    private static void farAway(int frogs) {
        x = new FrogBreath();
        x.girl(0);
        for (int f = 0; f < frogs; f++) {
            x.frog(35, 0);
            x.mend(f, OWES, f % 2 == 0 ? 0 : -1);
        }
        x.mend(0, TWO, 11);
    }

    private static int oweAtTheEnds(int seed, int junes, int hours, int carts, int frogs) {
        int z = seed;
        int together = 0;
        for (int june = 0; june < junes; june++) {
            int over = 0;
            for (int i = 0; i < hours; i++) {
                z = z * 1103515245 + 12345;
                over |= (z >>> 16) % 100 < carts ? 1 << (z >>> 8) % frogs : 0;
            }
            for (int f = 0; f < frogs; f += 2) {
                together += (over >> f & 1) == 0 ? 1 : 0;
            }
        }
        return together;
    }

    private static void junes() {
        told("DRAWN: n Junes (1 .. 30) of m (1 .. 40) hours from now by a SEED");
        int[] good = {10100, 14000, 14099, 20100, 300100, 304000, 304099};
        int[] bad = {MIN, -10100, -1, 0, 99, 100, 9999, 10000, 10099, 14100, 19999, 20000, 20099, 24100, 300000, 304100,
            309999, 310000, 310100, 314000, 1000000, MAX};
        x.girl(0);
        for (int nmc : good) {
            due("nobody OWES, " + nmc, x.drawn(5, nmc, -1), 0);
            due("BREATH, " + nmc, x.drawn(5, nmc, 0), nmc / 10000 * 60);
        }
        for (int nmc : bad) {
            due(nmc + "", x.drawn(5, nmc, -1), BAD);
            due(nmc + ", of girl 0", x.drawn(5, nmc, 0), BAD);
        }
        due("girl -2", x.drawn(5, 10100, -2), BAD);
        due("girl 1", x.drawn(5, 10100, 1), BAD);
        due("girl 8", x.drawn(5, 10100, 8), BAD);
    }

    private static void carts() {
        told("(an int; SEED at first) ahead of each hour: FROG (z >>> 8) % how many is run over (OWES -1, HELD 0), "
                + "if (z >>> 16) % 100 is below CARTS (0 .. 99, told)");
        int[] seeds = {0, 1, -1, 12345, -740551042, MIN, MAX};
        int[] junes = {1, 2, 30};
        int[] hours = {1, 2, 40};
        int[] carts = {0, 1, 7, 50, 99};
        for (int frogs = 1; frogs <= 8; frogs++) {
            farAway(frogs);
            for (int seed : seeds) {
                for (int n : junes) {
                    for (int m : hours) {
                        for (int c : carts) {
                            String what = "seed " + seed + ", " + n + " of " + m + ", CARTS " + c + ", frogs " + frogs;
                            due(what, x.drawn(seed, 10000 * n + 100 * m + c, -1), oweAtTheEnds(seed, n, m, c, frogs));
                        }
                    }
                }
                int owing = x.marsh(0, 0);
                farAway(frogs);
                due("nobody is run over in deed", owing, x.marsh(0, 0));
            }
        }
        // by seed 0: z >>> 16 is 0 at the first hour, 36 (of 100) at the second
        farAway(1);
        due("0 is not below 0", x.drawn(0, 10100, -1), 1);
        due("0 is below 1", x.drawn(0, 10101, -1), 0);
    }

    private static void drawnBreath() {
        told("then the hour passes: BREATH of a told GIRL at the ends, all together; how many FROGS OWE then.");
        x.girl(0);
        x.girl(0);
        x.frog(0, 0);
        x.mend(0, OWES, 0);
        x.mend(0, HELD, 10);
        x.mend(0, TWO, 0);
        due("no cart: BACK", x.drawn(0, 10100, 0), 70);
        due("ahead of the hour", x.drawn(0, 10101, 0), 60);
        due("ahead of the hour he OWES nobody", x.drawn(0, 10101, -1), 0);
        due("the first of two Junes", x.drawn(0, 20101, 0), 60 + 70);
        due("each June is from now", x.drawn(0, 302000, 0), 30 * 70);
        due("of the other girl", x.drawn(0, 302000, 1), 30 * 60);
        x.mend(0, BREATH, 95);
        due("99 at most, each time", x.drawn(0, 302000, 0), 30 * 99);
        due("BREATH stays", x.of(0, BREATH), 95);
        due("he still OWES", x.of(0, OWES), 0);
        due("no hour passed", x.led(0), 0);
        due("nobody was run over", x.led(4), 0);
        x.mend(0, TWO, 11);
        due("behind 11 hours", x.drawn(0, 11100, -1), 1);
        due("behind 12 hours", x.drawn(0, 11200, -1), 0);
    }

    private static void hours() {
        told("An HOUR passes: how many are BACK by it.");
        due("nobody", x.hour(), 0);
        x.girl(0);
        for (int f = 0; f < 8; f++) {
            x.frog(f / 3, 0);
            x.mend(f, OWES, 0);
        }
        x.mend(0, TWO, 1);
        due("at her PLACE, and a step off", x.hour(), 6);
        due("two off", x.hour(), 2);
        due("none is left", x.hour(), 0);
        due("hours", x.led(0), 4);
    }

    private static void lends() {
        told("a GIRL lends x to a FROG that OWES nobody (BREATH x less)");
        x.girl(0);
        due("no frog", x.lends(0, 1), BAD);
        for (int f = 0; f < 8; f++) {
            x.frog(35, 0);
        }
        due("x 0", x.lends(0, 0), BAD);
        due("x 100", x.lends(0, 100), BAD);
        due("gf 8", x.lends(8, 1), BAD);
        due("gf 10", x.lends(10, 1), BAD);
        due("gf -1", x.lends(-1, 1), BAD);
        due("gf MIN", x.lends(MIN, 1), BAD);
        due("gf MAX", x.lends(MAX, 1), BAD);
        due("61 of 60", x.lends(0, 61), STATE);
        due("no loan yet", x.led(1), 0);
        due("nothing lent", x.marsh(0, 1), 0);
        due("1 of 60", x.lends(0, 1), 59);
        due("he OWES", x.lends(0, 1), STATE);
        due("59 of 59", x.lends(7, 59), 0);
        due("1 of 0", x.lends(1, 1), STATE);
        x.mend(0, BREATH, 98);
        due("99 of 98", x.lends(1, 99), STATE);
        x.mend(0, BREATH, 99);
        due("99 of 99", x.lends(1, 99), 0);
        due("loans", x.led(1), 3);
        due("who OWE", x.marsh(0, 0), 1 + 2 + 128);
        due("HELD", x.marsh(0, 1), 1 + 59 + 99);
        for (int g = 1; g < 8; g++) {
            x.girl(g);
        }
        due("girl 7, frog 6", x.lends(76, 20), 40);
        due("of her", x.of(6, OWES), 7);
        due("girl 8", x.lends(80, 20), BAD);
        due("girl 6, frog 8", x.lends(68, 20), BAD);
        due("girl 6, frog 9", x.lends(69, 20), BAD);
    }

    private static void over() {
        told("A FROG is run over: what HELD was. BAD; STATE: he OWES nobody.");
        due("no frog", x.over(0), BAD);
        x.girl(0);
        x.frog(0, 0);
        due("frog 1", x.over(1), BAD);
        due("frog -1", x.over(-1), BAD);
        due("OWES nobody", x.over(0), STATE);
        x.mend(0, HELD, 50);
        due("OWES nobody, HELD 50", x.over(0), STATE);
        due("still holds 50", x.of(0, HELD), 50);
        x.mend(0, OWES, 0);
        due("HELD", x.over(0), 50);
        due("holds none", x.of(0, HELD), 0);
        due("again", x.over(0), STATE);
        x.mend(0, OWES, 0);
        due("with nothing", x.over(0), 0);
        due("twice", x.led(4), 2);
        due("BREATH stays", x.of(0, BREATH), 60);
    }

    private static void led() {
        told("LED: hours, loans, lost (by THE LAW), BACK (how many), run over.");
        x.girl(0);
        x.frog(0, 3);
        x.frog(35, 2);
        x.frog(35, 0);
        x.mend(0, TWO, 0);
        due("what -1", x.led(-1), BAD);
        due("what 5", x.led(5), BAD);
        x.lends(0, 20);
        x.lends(1, 1);
        x.lends(2, 30);
        x.lends(2, 1);
        x.mend(0, BREATH, 90);
        x.hour();
        x.over(2);
        x.hour();
        x.mend(0, HELD, 44);
        x.mend(0, HELD, 0);
        // 3 by frog 0, 1 by frog 1; what is above 99 and what the cart took is no loss by THE LAW
        int[] all = {2, 3, 4, 1, 1};
        for (int what = 0; what <= 4; what++) {
            due("what " + what, x.led(what), all[what]);
        }
        x.later(40, 1, 0);
        x.backWhen(-1);
        x.loan(0, 99, 0);
        x.best(0, 99, 0);
        x.dealt(99, -1);
        x.least(0, 209);
        x.alike();
        x.byTurns(1, 5, 0);
        x.drawn(1, 304099, 0);
        for (int what = 0; what <= 4; what++) {
            due("in thought, what " + what, x.led(what), all[what]);
        }
    }

    private static void changes() {
        told("CHANGES (all numbers of mend(); telling the same number is none) can be UNDONE, the latest first");
        due("none", x.undo(), STATE);
        due("none again", x.redo(), STATE);
        x.girl(3);
        x.girl(4);
        x.frog(5, 6);
        x.frog(7, 8);
        due("coming is none", x.count(3), 0);
        int[] was = {4, 60, 7, 8, -1, 0, 5, 0};
        int[] now = {9, 61, 10, 9, 1, 11, 6, 1};
        for (int what = 0; what <= 7; what++) {
            int number = what >= TWO ? 0 : 1;
            due("the same, what " + what, x.mend(number, what, was[what]), was[what]);
            due("is none, what " + what, x.count(3), what);
            due("a wrong one, what " + what, x.mend(number, what, 100), VOID);
            due("is none either, what " + what, x.count(3), what);
            due("another, what " + what, x.mend(number, what, now[what]), was[what]);
            due("is one, what " + what, x.count(3), what + 1);
        }
        due("nothing to do again", x.redo(), STATE);
        for (int what = 7; what >= 0; what--) {
            int number = what >= TWO ? 0 : 1;
            due("before, what " + what, x.of(number, what), now[what]);
            due("undone, what " + what, x.undo(), what);
            due("behind, what " + what, x.of(number, what), was[what]);
        }
        due("none is left", x.undo(), STATE);
        due("none is counted", x.count(3), 0);
        for (int what = 0; what <= 7; what++) {
            int number = what >= TWO ? 0 : 1;
            due("done again, what " + what, x.redo(), 7 - what);
            due("as it was told, what " + what, x.of(number, what), now[what]);
            due("may be undone, what " + what, x.count(3), what + 1);
        }
        due("no more", x.redo(), STATE);
        due("of the others nothing", x.of(0, BREATH) * 100 + x.of(0, KEEPS), 6006);
    }

    private static void laterChanges() {
        told("DONE AGAIN (as long as no other came behind)");
        x.girl(0);
        x.frog(0, 0);
        x.mend(0, BREATH, 1);
        x.mend(0, BREATH, 2);
        x.mend(0, BREATH, 3);
        x.undo();
        x.undo();
        x.mend(0, BREATH, 1);
        due("the same is none", x.redo(), 1);
        due("so it's done again", x.of(0, BREATH), 2);
        x.undo();
        x.mend(0, BREATH, 100);
        x.mend(1, BREATH, 5);
        x.lends(0, 1);
        x.hour();
        x.image();
        x.back();
        x.girl(7);
        x.frog(7, 7);
        lawOf("3");
        due("nothing of that came behind", x.redo(), 1);
        due("as it was told", x.of(0, BREATH), 2);
        x.undo();
        due("a change like the one undone", x.mend(0, BREATH, 2), 1);
        due("is another", x.redo(), STATE);
        due("two may be undone", x.undo(), 1);
        due("BREATH 1", x.of(0, BREATH), 1);
        x.mend(0, TWO, 3);
        due("none by another behind", x.redo(), STATE);
        due("of TWO", x.undo(), 1);
        due("TWO", x.of(0, TWO), 5);
        due("of BREATH", x.undo(), 0);
        due("BREATH ahead of all", x.of(0, BREATH), 60);
    }

    private static void forty() {
        told("40 at most are kept");
        for (int made = 39; made <= 90; made++) {
            x = new FrogBreath();
            x.girl(0);
            for (int i = 1; i <= made; i++) {
                x.mend(0, BREATH, i);
            }
            int kept = Math.min(40, made);
            due("of " + made, x.count(3), kept);
            for (int i = kept - 1; i >= 0; i--) {
                due("undone of " + made, x.undo(), i);
            }
            due("none is left of " + made, x.undo(), STATE);
            due("BREATH ahead of the 40 of " + made, x.of(0, BREATH), made <= 40 ? 60 : made - 40);
            for (int i = kept - 1; i >= 0; i--) {
                due("done again of " + made, x.redo(), i);
            }
            due("none is left to do of " + made, x.redo(), STATE);
            due("BREATH behind all of " + made, x.of(0, BREATH), made);
        }
        x.undo();
        x.undo();
        x.mend(0, BREATH, 0);
        due("39 behind another", x.count(3), 39);
        x.mend(0, BREATH, 1);
        x.mend(0, BREATH, 2);
        due("40 behind two more", x.count(3), 40);
    }

    private static void deedsAreNone() {
        told("deeds are none (PLACES of FROGS, BREATH, OWES, HELD, HOUR by them, too)");
        x.girl(0);
        x.frog(2, 1);
        x.frog(9, 1);
        x.mend(0, TWO, 1);
        x.mend(0, BREATH, 70);
        x.lends(0, 20);
        x.lends(1, 20);
        x.hour();
        x.hour();
        x.over(1);
        x.hour();
        due("no change by them", x.count(3), 2);
        due("BREATH is undone", x.undo(), 1);
        due("to what it was ahead of the change", x.of(0, BREATH), 60);
        due("PLACE by deed stays", x.of(0, FROG_PLACE), 0);
        due("PLACE of the other stays", x.of(1, FROG_PLACE), 8);
        due("OWES by deed stays", x.of(1, OWES), -1);
        due("HELD by deed stays", x.of(1, HELD), 0);
        due("HOUR by deed stays", x.of(0, HOUR), 3);
        due("BREATH is done again", x.redo(), 0);
        due("to what was told", x.of(0, BREATH), 70);
        due("hours are as led", x.led(0), 3);
    }

    private static void image() {
        told("AN IMAGE keeps BREATH of GIRLS, PLACE, OWES, HELD of FROGS, HOUR, what LED tells (laid back, CHANGES "
                + "stay as they are).");
        due("there is none", x.back(), STATE);
        due("none again", x.back(), STATE);
        due("of an empty marsh", x.image(), 0);
        due("laid back", x.back(), 0);
        x = new FrogBreath();
        x.girl(0);
        x.girl(1);
        x.frog(3, 2);
        x.frog(35, 0);
        x.lends(0, 30);
        x.lends(11, 20);
        x.mend(0, TWO, 1);
        x.hour();
        x.hour();
        x.over(1);
        due("hours", x.image(), 2);
        int[] led = {2, 2, 4, 0, 1};
        for (int times = 1; times <= 2; times++) {
            x.mend(0, BREATH, 4 + times);
            x.mend(1, BREATH, 4 + times);
            x.mend(1, OWES, 1);
            x.mend(1, HELD, 8);
            x.mend(0, FROG_PLACE, 20);
            x.mend(0, HOUR, 9);
            x.hour();
            x.over(0);
            x.lends(0, 1);
            due("laid back, time " + times, x.back(), 2);
            due("BREATH of 0", x.of(0, BREATH), 30);
            due("BREATH of 1", x.of(1, BREATH), 40);
            due("PLACE of 0", x.of(0, FROG_PLACE), 2);
            due("OWES of 0", x.of(0, OWES), 0);
            due("HELD of 0", x.of(0, HELD), 26);
            due("PLACE of 1", x.of(1, FROG_PLACE), 34);
            due("OWES of 1", x.of(1, OWES), -1);
            due("HELD of 1", x.of(1, HELD), 0);
            due("HOUR", x.of(0, HOUR), 2);
            for (int what = 0; what <= 4; what++) {
                due("led " + what, x.led(what), led[what]);
            }
            due("CHANGES stay", x.count(3), 1 + 6 * times);
        }
        due("one is undone", x.undo(), 12);
        due("HOUR as ahead of that change", x.of(0, HOUR), 2);
        x.undo();
        due("laid back, to be done again", x.back(), 2);
        due("done again", x.redo(), 1);
        due("PLACE as told", x.of(0, FROG_PLACE), 20);
        x.hour();
        due("another image", x.image(), 3);
        x.hour();
        due("the latest counts", x.back(), 3);
    }

    private static void laidBack() {
        told("It is laid back (GIRLS, FROGS that came since as they are): hours. STATE: there is none.");
        x.girl(0);
        x.frog(35, 1);
        x.image();
        x.girl(9);
        x.frog(8, 4);
        x.lends(11, 33);
        x.mend(0, GIRL_PLACE, 30);
        x.mend(0, KEEPS, 7);
        x.mend(0, TWO, 3);
        lawOf("6");
        x.feed('7');
        x.body(2);
        x.keep(0, 0);
        x.act(0, 1, 1);
        due("laid back", x.back(), 0);
        due("GIRLS", x.count(0), 2);
        due("FROGS", x.count(1), 2);
        due("BREATH of her that came", x.of(1, BREATH), 27);
        due("PLACE of her that came", x.of(1, GIRL_PLACE), 9);
        due("PLACE of him that came", x.of(1, FROG_PLACE), 8);
        due("OWES of him that came", x.of(1, OWES), 1);
        due("HELD of him that came", x.of(1, HELD), 33);
        due("KEEPS of him that came", x.of(1, KEEPS), 4);
        due("loans", x.led(1), 0);
        due("PLACE of a GIRL isn't kept", x.of(0, GIRL_PLACE), 30);
        due("KEEPS isn't kept", x.of(0, KEEPS), 7);
        due("TWO isn't kept", x.of(0, TWO), 3);
        due("THE LAW isn't kept", x.loses(1), 6);
        due("THE TAPE isn't kept", x.count(2), 1);
        due("BODIES aren't kept", x.count(4), 1);
        due("SHELVES aren't kept", x.taken(0, 2), 2);
        due("THE TRACE isn't kept", x.trace(0), 30);
        for (int i = 0; i < 6; i++) {
            x.girl(10 + i);
            x.frog(10 + i, 0);
        }
        due("laid back in a full marsh", x.back(), 0);
        due("eight GIRLS", x.count(0), 8);
        due("the last FROG", x.of(7, FROG_PLACE), 15);
        due("an image of a full marsh", x.image(), 0);
        x.mend(7, BREATH, 1);
        x.mend(7, FROG_PLACE, 1);
        due("laid back, all eight", x.back(), 0);
        due("BREATH of the last", x.of(7, BREATH), 60);
        due("PLACE of the last", x.of(7, FROG_PLACE), 15);
    }
}
