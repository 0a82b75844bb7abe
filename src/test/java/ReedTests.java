/** Reeds, their acts, the trace, the shelves and frogs from rows (part 5 of the Terms), sentence by sentence. */
public final class ReedTests extends Checks {
    private static final int[] NUMBERS = {MIN, MIN + 1, -70, -1, 0, 1, 70, MAX - 1, MAX};

    public static void main(String[] args) {
        bodies();
        lending();
        singing();
        keeping();
        telling();
        trace();
        traceOfEach();
        noSuch();
        shelves();
        rows();
        lowestBits();
        elements();
        shiftPlaces();
        shiftAsTheyWere();
        shiftKinds();
        taken();
        frogsFromRow();
        rowEnds();
        rowNotSo();
        rowFull();
        finish();
    }

    /** 50 bodies; number n is of KIND n % 8. */
    private static void fifty() {
        x = new FrogBreath();
        for (int n = 0; n < 50; n++) {
            x.body(n % 8);
        }
    }

    private static void bodies() {
        told("REEDS' ways are kept by call as BODIES 0 .. 49, of KINDS: 0 REED; 1 MUSLIN under REED; 2 DITCH under "
                + "REED; 3 MILL under DITCH; 4 PRINCE under MUSLIN; 5 CLOCK under MILL; 6 LAMP under REED; 7 SIGH "
                + "under PRINCE.");
        due("kind -1", x.body(-1), BAD);
        due("kind 8", x.body(8), BAD);
        due("none", x.count(4), 0);
        due("body 0 isn't there", x.keep(0, 0), BAD);
        for (int n = 0; n < 50; n++) {
            due("body " + n, x.body(7 - n % 8), n);
            due("so many", x.count(4), n + 1);
            due("it may be kept", x.keep(0, n), 1);
            due("its KIND", x.taken(0, 0), 7 - n % 8);
            due("the next isn't there", x.keep(0, n + 1), BAD);
        }
        due("a 51st", x.body(0), FULL);
        due("a 51st of no kind", x.body(8), BAD);
        due("50", x.count(4), 50);
    }

    private static int lends(int kind, int n, int v) {
        return kind == 1 || kind == 4 || kind == 7 ? v + n + 3 : kind == 6 ? (v + n) * 2 : v + n;
    }

    private static int keeps(int kind, int n, int v) {
        return kind == 3 || kind == 5 ? (v ^ n) * 3 : kind == 4 || kind == 7 ? (v ^ n) - (n + 5) : v ^ n;
    }

    private static int sings(int kind, int n, int v) {
        int doubled = lends(kind, n, kind == 3 || kind == 5 ? v + 1 : v) * 2;
        boolean ditch = kind == 2 || kind == 3 || kind == 5;
        return ditch ? -doubled : kind == 7 ? doubled + keeps(kind, n, 2) : doubled;
    }

    private static int tells(int kind, int n, int v) {
        int all = sings(kind, n, v) - keeps(kind, n, 1);
        return kind == 5 ? all ^ 5 : kind == 7 ? all - 1 : all;
    }

    private static void lending() {
        told("ACTS with x (an int that wraps): 0 lends, 1 sings, 2 keeps, 3 tells; n its number.");
        fifty();
        for (int n = 0; n < 50; n++) {
            for (int v : NUMBERS) {
                due("lends(" + v + ") of body " + n, x.act(n, 0, v), lends(n % 8, n, v));
            }
        }
        due("the highest and 49, of a MUSLIN", x.act(49, 0, MAX), MIN + 51);
        due("the highest and 46, of a LAMP", x.act(46, 0, MAX), 90);
    }

    private static void singing() {
        told("REED: 10 sings: lends(x) * 2.");
        fifty();
        for (int n = 0; n < 50; n++) {
            for (int v : NUMBERS) {
                due("sings(" + v + ") of body " + n, x.act(n, 1, v), sings(n % 8, n, v));
            }
        }
        due("the highest and 1, of a MILL", x.act(3, 1, MAX), -6);
    }

    private static void keeping() {
        told("PRINCE: 50 keeps: super.keeps(x) - lends(2).");
        fifty();
        for (int n = 0; n < 50; n++) {
            for (int v : NUMBERS) {
                due("keeps(" + v + ") of body " + n, x.act(n, 2, v), keeps(n % 8, n, v));
            }
        }
        due("the lowest, of a PRINCE", x.act(4, 2, MIN), MAX - 4);
    }

    private static void telling() {
        told("TELLS (of REED): 2 tells: sings(x) - keeps(1).");
        fifty();
        for (int n = 0; n < 50; n++) {
            for (int v : NUMBERS) {
                due("tells(" + v + ") of body " + n, x.act(n, 3, v), tells(n % 8, n, v));
            }
        }
    }

    private static void ran(int kind, int act, int... bodies) {
        x.act(kind, act, 3);
        String what = " of kind " + kind + ", act " + act;
        due("how many ran" + what, x.count(5), bodies.length);
        for (int i = 0; i < bodies.length; i++) {
            due("body " + i + what, x.trace(i), bodies[i]);
        }
        for (int i = bodies.length; i <= 25; i++) {
            due("place " + i + what, x.trace(i), BAD);
        }
    }

    private static void trace() {
        told("THE TRACE: numbers of the bodies that ran in the latest act(), as they began; the first 24 are kept.");
        for (int kind = 0; kind < 8; kind++) {
            x.body(kind);
        }
        due("none yet", x.trace(0), BAD);
        due("none ran yet", x.count(5), 0);
        ran(7, 3, 81, 2, 80, 10, 20, 1, 50, 11, 20, 1, 50, 11, 20, 1);
        ran(0, 0, 1);
        due("of the latest alone", x.trace(1), BAD);
        due("place -1", x.trace(-1), BAD);
        due("place MIN", x.trace(MIN), BAD);
        due("place 24", x.trace(24), BAD);
        due("place MAX", x.trace(MAX), BAD);
    }

    private static void traceOfEach() {
        told("lends(..) and so on (act 0 is lends): the body of its own KIND, or of the next KIND above that has "
                + "one; super: from the KIND above the body's on.");
        int[][][] all = {
            {{1}, {10, 1}, {11}, {2, 10, 1, 11}},
            {{20, 1}, {10, 20, 1}, {11}, {2, 10, 20, 1, 11}},
            {{1}, {30, 10, 1}, {11}, {2, 30, 10, 1, 11}},
            {{1}, {41, 30, 10, 1}, {40, 11}, {2, 41, 30, 10, 1, 40, 11}},
            {{20, 1}, {10, 20, 1}, {50, 11, 20, 1}, {2, 10, 20, 1, 50, 11, 20, 1}},
            {{1}, {41, 30, 10, 1}, {40, 11}, {60, 2, 41, 30, 10, 1, 40, 11}},
            {{70, 1}, {10, 70, 1}, {11}, {2, 10, 70, 1, 11}},
            {{20, 1}, {80, 10, 20, 1, 50, 11, 20, 1}, {50, 11, 20, 1},
                {81, 2, 80, 10, 20, 1, 50, 11, 20, 1, 50, 11, 20, 1}}};
        for (int kind = 0; kind < 8; kind++) {
            for (int act = 0; act < 4; act++) {
                x = new FrogBreath();
                for (int i = 0; i < 8; i++) {
                    x.body(i);
                }
                ran(kind, act, all[kind][act]);
            }
        }
    }

    private static void noSuch() {
        told("An ACT (0 .. 3) of a REED with x. 0, and no TRACE then: no such REED, ACT.");
        due("no REED yet", x.act(0, 0, 5), 0);
        x.body(4);
        int[][] wrong = {{1, 0}, {-1, 0}, {50, 0}, {MIN, 0}, {MAX, 0}, {0, -1}, {0, 4}, {0, MIN}, {0, MAX}, {1, 4}};
        for (int[] which : wrong) {
            due("lends", x.act(0, 0, 5), 8);
            due("it ran", x.count(5), 2);
            due("REED " + which[0] + ", ACT " + which[1], x.act(which[0], which[1], 5), 0);
            due("none ran", x.count(5), 0);
            due("no TRACE", x.trace(0), BAD);
        }
        for (int act = 0; act <= 3; act++) {
            x.act(0, act, 5);
            hold("ACT " + act + " runs", x.count(5) > 0);
        }
    }

    private static void shelves() {
        told("SHELVES 0 .. 5 each hold nothing (at first), a REED (a BODY), or a ROW");
        x.body(6);
        due("shelf -1", x.keep(-1, -1), BAD);
        due("shelf 6", x.keep(6, -1), BAD);
        due("body 1", x.keep(0, 1), BAD);
        due("body -2", x.keep(0, -2), BAD);
        for (int shelf = 0; shelf <= 5; shelf++) {
            due("nothing at first", x.taken(shelf, 0), NOTHING);
            due("no element", x.element(shelf, 0), Long.MIN_VALUE);
            due("nothing on nothing", x.keep(shelf, -1), 1);
            due("nothing still", x.put(shelf, 0, 1), NOTHING);
            due("a REED", x.keep(shelf, 0), 1);
            due("its KIND", x.taken(shelf, 0), 6);
            due("no ROW", x.put(shelf, 0, 1), OTHER_KIND);
            due("a ROW", x.row(shelf, 0, 1), 1);
            due("no REED", x.taken(shelf, 0), OTHER_KIND);
            due("its element", x.put(shelf, 0, 1), 1);
            due("a REED again", x.keep(shelf, 0), 1);
            due("no element of a REED", x.element(shelf, 0), Long.MIN_VALUE);
            due("the next shelf is bare", x.taken(Math.min(5, shelf + 1), 0), shelf == 5 ? 6 : NOTHING);
        }
        due("nothing", x.keep(2, -1), 1);
        due("nothing is there", x.taken(2, 0), NOTHING);
        due("the others hold it", x.taken(3, 6), 6);
        due("the body is there all the same", x.act(0, 0, 1), 2);
    }

    private static void rows() {
        told("0 bytes, 1 shorts, 2 ints, 3 longs, 4 booleans, of 0 .. 60 elements, 0 at first (false)");
        due("shelf -1", x.row(-1, 0, 0), BAD);
        due("shelf 6", x.row(6, 0, 0), BAD);
        due("sort -1", x.row(0, -1, 0), BAD);
        due("sort 5", x.row(0, 5, 0), BAD);
        for (int sort = 0; sort <= 4; sort++) {
            due("n 61", x.row(sort, sort, 61), BAD);
            due("n MAX", x.row(sort, sort, MAX), BAD);
            due("n -1", x.row(sort, sort, -1), BELOW_ZERO);
            due("n MIN", x.row(sort, sort, MIN), BELOW_ZERO);
            due("nothing came", x.put(sort, 0, 0), NOTHING);
            due("n 0", x.row(sort, sort, 0), 1);
            due("place 0 of none", x.put(sort, 0, 0), NO_PLACE);
            due("n 60", x.row(sort, sort, 60), 1);
            for (int i = 0; i < 60; i++) {
                due("at first", x.element(sort, i), 0);
            }
            due("place 60", x.put(sort, 60, 0), NO_PLACE);
            x.put(sort, 0, 1);
            x.put(sort, 59, 1);
            due("a wrong one in its stead", x.row(sort, sort, 61), BAD);
            due("and one below 0", x.row(sort, sort, -1), BELOW_ZERO);
            due("the first stays", x.element(sort, 0), 1);
            due("a new one in its stead", x.row(sort, sort, 60), 1);
            due("the first is 0 again", x.element(sort, 0), 0);
            due("the last is 0 again", x.element(sort, 59), 0);
        }
    }

    private static void lowestBits() {
        told("what is put in keeps its lowest bits (a boolean: whether it is not 0; 1 or 0)");
        long[] all = {0, 1, -1, 2, 127, 128, 129, 255, 256, -128, -129, 32767, 32768, 65535, 65536, -32768, -32769,
            MAX, MAX + 1L, 0xFFFFFFFFL, 1L << 32, MIN, MIN - 1L, Long.MAX_VALUE, Long.MIN_VALUE, 1L << 40, 1L << 63};
        for (int sort = 0; sort <= 4; sort++) {
            x = new FrogBreath();
            x.row(0, sort, 3);
            for (long v : all) {
                long[] kept = {(byte) v, (short) v, (int) v, v, v == 0 ? 0 : 1};
                due("put " + v, x.put(0, 1, v), 1);
                due(v + " in sort " + sort, x.element(0, 1), kept[sort]);
                due("ahead of it", x.element(0, 0), 0);
                due("behind it", x.element(0, 2), 0);
            }
        }
    }

    private static void elements() {
        told("Element i of a ROW; Long.MIN_VALUE: BAD, -11 to -13.");
        int[] sizes = {0, 1, 2, 59, 60};
        for (int size : sizes) {
            x.row(1, 3, size);
            int[] wrong = {MIN, -1, size, size + 1, 60, MAX};
            for (int i : wrong) {
                due("place " + i + " of " + size, x.element(1, i), Long.MIN_VALUE);
                due("put at " + i + " of " + size, x.put(1, i, 5), NO_PLACE);
            }
            for (int i = 0; i < size; i++) {
                due("put at " + i + " of " + size, x.put(1, i, i - 7), 1);
            }
            for (int i = 0; i < size; i++) {
                due("place " + i + " of " + size, x.element(1, i), i - 7);
            }
        }
        due("shelf -1", x.element(-1, 0), Long.MIN_VALUE);
        due("shelf 6", x.element(6, 0), Long.MIN_VALUE);
        due("bare", x.element(0, 0), Long.MIN_VALUE);
        x.body(0);
        x.keep(0, 0);
        due("a REED", x.element(0, 0), Long.MIN_VALUE);
        due("put, shelf -1", x.put(-1, 0, 1), BAD);
        due("put, shelf 6", x.put(6, 0, 1), BAD);
    }

    private static void twoRows(int size, int other) {
        x = new FrogBreath();
        x.row(0, 2, size);
        x.row(1, 2, other);
        for (int i = 0; i < size; i++) {
            x.put(0, i, 10 + i);
        }
    }

    /** Every part of a row of 3 to every place of a row of 2, those just without too. */
    private static void shiftPlaces() {
        told("-13 (with n 0, too, if i or j is above how many there are).");
        for (int i = -1; i <= 4; i++) {
            for (int j = -1; j <= 3; j++) {
                for (int n = -1; n <= 4; n++) {
                    twoRows(3, 2);
                    boolean may = i >= 0 && j >= 0 && n >= 0 && i + n <= 3 && j + n <= 2;
                    due(n + " from " + i + " to " + j, x.shift(0, i, 1, j, n), may ? n : NO_PLACE);
                    for (int k = 0; k < 2; k++) {
                        boolean came = may && k >= j && k < j + n;
                        due("element " + k + ", " + n + " from " + i + " to " + j, x.element(1, k),
                                came ? 10 + i + k - j : 0);
                    }
                    holds(0, 10, 11, 12);
                }
            }
        }
        twoRows(3, 2);
        int[][] far = {{MAX, 0, 1}, {0, MAX, 1}, {0, 0, MAX}, {1, 1, MAX}, {MAX, MAX, MAX}, {MIN, 0, 1}, {0, MIN, 1},
            {0, 0, MIN}, {MAX, 0, 0}, {0, MAX, 0}, {MIN, MIN, MIN}, {1, 0, MAX}, {0, 1, MAX}};
        for (int[] f : far) {
            due(f[2] + " from " + f[0] + " to " + f[1], x.shift(0, f[0], 1, f[1], f[2]), NO_PLACE);
        }
        twoRows(0, 0);
        due("none of none", x.shift(0, 0, 1, 0, 0), 0);
        due("none from 1", x.shift(0, 1, 1, 0, 0), NO_PLACE);
        due("none to 1", x.shift(0, 0, 1, 1, 0), NO_PLACE);
        due("one of none", x.shift(0, 0, 1, 0, 1), NO_PLACE);
        twoRows(60, 60);
        due("all 60", x.shift(0, 0, 1, 0, 60), 60);
        due("the last", x.element(1, 59), 69);
        due("61", x.shift(0, 0, 1, 0, 61), NO_PLACE);
    }

    private static void shiftAsTheyWere() {
        told("n elements of a ROW from i on come to another one (or the same) from j on, as they all were before: n.");
        for (int i = 0; i <= 5; i++) {
            for (int j = 0; j <= 5; j++) {
                int n = 6 - Math.max(i, j);
                twoRows(6, 0);
                due(n + " in itself from " + i + " to " + j, x.shift(0, i, 0, j, n), n);
                for (int k = 0; k < 6; k++) {
                    due("element " + k, x.element(0, k), 10 + (k >= j && k < j + n ? i + k - j : k));
                }
            }
        }
        twoRows(6, 6);
        due("to the other", x.shift(0, 2, 1, 1, 3), 3);
        holds(1, 0, 12, 13, 14, 0, 0);
        x.put(0, 2, 99);
        due("no more than the elements is common to both", x.element(1, 1), 12);
    }

    private static void shiftKinds() {
        told("BAD, -11 (either), -12 (no ROWS, or of unlike sorts), -13");
        due("shelf -1", x.shift(-1, 0, 0, 0, 0), BAD);
        due("shelf 6", x.shift(6, 0, 0, 0, 0), BAD);
        due("other -1", x.shift(0, 0, -1, 0, 0), BAD);
        due("other 6", x.shift(0, 0, 6, 0, 0), BAD);
        due("both bare", x.shift(0, 0, 1, 0, 0), NOTHING);
        x.body(0);
        x.keep(5, 0);
        for (int sort = 0; sort <= 4; sort++) {
            x.row(sort, sort, 2);
        }
        for (int a = 0; a <= 5; a++) {
            for (int b = 0; b <= 5; b++) {
                boolean like = a == b && a < 5;
                due(a + " to " + b, x.shift(a, 0, b, 0, 0), like ? 0 : OTHER_KIND);
                due(a + " to " + b + ", a place that's not there", x.shift(a, 9, b, 0, 0),
                        like ? NO_PLACE : OTHER_KIND);
            }
        }
        x.keep(0, -1);
        for (int a = 1; a <= 5; a++) {
            due(a + " to a bare one", x.shift(a, 0, 0, 0, 0), NOTHING);
            due(a + " from a bare one", x.shift(0, 0, a, 0, 0), NOTHING);
            due(a + " from a bare one, a place that's not there", x.shift(0, -1, a, 0, 0), NOTHING);
        }
    }

    private static void taken() {
        told("What a SHELF holds, taken for a REED of KIND k (0 .. 7), or under it: its KIND. BAD, -11, -12.");
        int[] above = {1, 1 | 2, 1 | 4, 1 | 4 | 8, 1 | 2 | 16, 1 | 4 | 8 | 32, 1 | 64, 1 | 2 | 16 | 128};
        due("k -1", x.taken(0, -1), BAD);
        due("k 8", x.taken(0, 8), BAD);
        due("shelf -1", x.taken(-1, 0), BAD);
        due("shelf 6", x.taken(6, 0), BAD);
        for (int kind = 0; kind < 8; kind++) {
            x.body(kind);
            x.keep(0, kind);
            for (int k = 0; k < 8; k++) {
                due("a " + kind + " for a " + k, x.taken(0, k), (above[kind] >> k & 1) == 1 ? kind : OTHER_KIND);
                due("nothing for a " + k, x.taken(1, k), NOTHING);
            }
        }
        for (int sort = 0; sort <= 4; sort++) {
            x.row(0, sort, 1);
            for (int k = 0; k < 8; k++) {
                due("sort " + sort + " for a " + k, x.taken(0, k), OTHER_KIND);
            }
        }
    }

    private static void frogsFromRow() {
        told("FROGS FROM A ROW of bytes, from a place on: by fours PLACE, KEEPS, OWES (-1 too), HELD: n of them");
        int[] fours = {9, 35, 9, -1, 99, 0, 0, 0, 0, 14, 1, 1, 5, 20, 2, -1, 6};
        for (int n = 1; n <= 4; n++) {
            x = new FrogBreath();
            x.girl(0);
            x.girl(0);
            bytes(3, fours);
            due("n " + n, x.frogs(3, 1, n), n);
            due("so many", x.count(1), n);
            for (int f = 0; f < n; f++) {
                for (int what = FROG_PLACE; what <= HELD; what++) {
                    due("what " + what + " of " + f, x.of(f, what), fours[1 + 4 * f + what - FROG_PLACE]);
                }
            }
        }
        due("no change", x.count(3), 0);
        due("n 0", x.frogs(3, 1, 0), BAD);
        due("n 9", x.frogs(3, 1, 9), BAD);
        due("n 8", x.frogs(3, 13, 8), 1);
        due("shelf -1", x.frogs(-1, 0, 1), BAD);
        due("shelf 6", x.frogs(6, 0, 1), BAD);
        for (int sort = 1; sort <= 4; sort++) {
            x.row(0, sort, 8);
            due("sort " + sort, x.frogs(0, 0, 1), OTHER_KIND);
            due("sort " + sort + ", n 0", x.frogs(0, 0, 0), BAD);
            due("sort " + sort + ", below 0", x.frogs(0, -1, 1), OTHER_KIND);
        }
        x.body(0);
        x.keep(0, 0);
        due("a REED", x.frogs(0, 0, 1), OTHER_KIND);
    }

    private static void rowEnds() {
        told("it ends where the row is missing, ends (at a place below 0, too; within a four, too), one is not so, "
                + "or FROGS are FULL: those ahead came.");
        due("missing", x.frogs(0, 0, 8), 0);
        for (int size = 0; size <= 13; size++) {
            for (int i = 0; i <= size + 1; i++) {
                x = new FrogBreath();
                x.row(0, 0, size);
                for (int k = 0; k < size; k++) {
                    x.put(0, k, (k - i) % 4 == 2 ? -1 : k % 9);
                }
                int there = Math.max(0, size - i) / 4;
                due("8 of " + size + " from " + i, x.frogs(0, i, 8), there);
                due("so many came of " + size + " from " + i, x.count(1), there);
                due("8 from -1", x.frogs(0, -1, 8), 0);
                due("8 from MIN", x.frogs(0, MIN, 8), 0);
                due("8 from MAX", x.frogs(0, MAX, 8), 0);
                due("none came", x.count(1), there);
            }
        }
    }

    private static void rowNotSo() {
        told("by fours PLACE, KEEPS, OWES (-1 too), HELD");
        int[][] limits = {{0, 35}, {0, 9}, {-1, 2}, {0, 99}};
        for (int k = 0; k < 4; k++) {
            int[] low = {0, 0, -1, 0, 0, 0, -1, 0, 0, 0, -1, 0};
            for (int v = -128; v <= 127; v++) {
                x = new FrogBreath();
                x.girl(0);
                x.girl(0);
                x.girl(0);
                int[] row = low.clone();
                row[4 + k] = v;
                bytes(0, row);
                boolean so = v >= limits[k][0] && v <= limits[k][1];
                due(v + " as number " + k + " of the second", x.frogs(0, 0, 3), so ? 3 : 1);
                due("so many came", x.count(1), so ? 3 : 1);
                due("itself", x.of(1, FROG_PLACE + k), so ? v : VOID);
            }
        }
    }

    private static void rowFull() {
        told("or FROGS are FULL: those ahead came.");
        for (int there = 0; there <= 8; there++) {
            x = new FrogBreath();
            x.row(0, 0, 60);
            for (int f = 0; f < 15; f++) {
                x.put(0, 4 * f, f);
                x.put(0, 4 * f + 2, -1);
            }
            for (int f = 0; f < there; f++) {
                x.frog(35, 0);
            }
            due("8 behind " + there, x.frogs(0, 0, 8), 8 - there);
            due("eight are there", x.count(1), 8);
            due("the last", x.of(7, FROG_PLACE), there == 8 ? 35 : 7 - there);
            due("no more", x.frogs(0, 0, 1), 0);
            due("n 9, though full", x.frogs(0, 0, 9), BAD);
        }
    }
}
