import java.math.BigInteger;

/** Boundary cases of promises 21 to 27: what is NOTED, YEARS by a seed, the IMAGE. */
public final class BoundaryOfNotes extends Sheet {
    private static final int MIN = Integer.MIN_VALUE;
    private static final int MAX = Integer.MAX_VALUE;
    private static final int[] FAR = {-1, -2, MIN, MAX, 99};
    /** SPACE is 2 for each copy that may go. */
    private static final String ONE = "library 9;work 2 1;holds 0 0 3;";

    public static void main(String[] args) {
        notes();
        fits();
        looks();
        forgets();
        numbersOfDraws();
        draws();
        images();
        end();
    }

    private static void notes() {
        holds(21, "NOTED: how much is. NONE (STATUS 2): there are 6, not NONE to 999.", () -> {
            CopyKeeper x = with(ONE);
            int refused = 0;
            for (int space : new int[] {-2, 1000, MIN, MAX}) {
                is("note " + space, NONE, x.note(space));
                is("STATUS 2", ++refused, x.count(22));
            }
            is("none is NOTED", 0, x.count(18));
            int many = 0;
            for (int space : new int[] {NONE, 0, 1, 998, 999, 999}) {
                is("note " + space, ++many, x.note(space));
                is("NOTED", many, x.count(18));
            }
            for (int space : new int[] {NONE, 0, 999, -2, 1000}) is("there are 6", NONE, x.note(space));
            is("NOTED", 6, x.count(18));
            is("STATUS 2", 9, x.count(22));
            is("STATUS 1", 0, x.count(21));
            is("no ACTS", 0, x.count(17));
        });
        holds(21, "NOTED (at most 6)", () -> {
            CopyKeeper x = with(ONE);
            for (int i = 1; i <= 5; i++) is("note", i, x.note(4));
            is("all are so", 1, x.fits(2));
            is("the 6th isn't", 6, x.note(2));
            is("all 6 count", 0, x.fits(2));
            is("nor is any KEEP so", 0, x.fits(0));
            is("a 7th", NONE, x.note(4));
            is("nothing else", 0, x.fits(0));
        });
    }

    private static void fits() {
        holds(22, "NoSuchElementException: another what.", () -> {
            for (CopyKeeper x : new CopyKeeper[] {new CopyKeeper(), with(ONE)}) {
                for (int what = 0; what <= 2; what++) x.fits(what);
                noSuch("fits(3)", () -> x.fits(3));
                for (int far : FAR) noSuch("fits(" + far + ")", () -> x.fits(far));
            }
        });
        holds(22, "FITS: how many (what 0), the first (1; NONE: none), whether without (2).", () -> {
            CopyKeeper x = with(ONE);
            // KEEP 0 to 3 and beyond: 6 4 2 0 0 ..
            int[][] due = {{6, 1, 0, 0}, {4, 0, NONE, 1}, {2, 1, 2, 0}, {0, 13, 3, 0}, {NONE, 0, NONE, 0}, {8, 0, NONE, 0}, {999, 0, NONE, 0}};
            for (int[] d : due) {
                x.forget();
                is("note " + d[0], 1, x.note(d[0]));
                is("how many", d[1], x.fits(0));
                is("the first", d[2], x.fits(1));
                is("without", d[3], x.fits(2));
            }
            CopyKeeper y = new CopyKeeper();
            is("no WORKS: none", 0, y.fits(0));
            is("no first", NONE, y.fits(1));
            is("of none NOTED all are so", 1, y.fits(2));
            is("note", 1, y.note(0));
            is("SPACE 0", 1, y.fits(2));
            is("note", 2, y.note(NONE));
            is("not none", 0, y.fits(2));
        });
        holds(22, "FITS: WORKS and KEEPS (another one, 0 to 15), by one of which all NOTED would be so", () -> {
            CopyKeeper x = with("library 9;work 1 0;");
            is("1 to 15", 15, x.fits(0));
            is("the first", 1, x.fits(1));
            x.keep(0, 15);
            is("0 to 14", 15, x.fits(0));
            is("the first", 0, x.fits(1));
            CopyKeeper y = with("library 9;" + "work 1 0;".repeat(6));
            is("of 6 WORKS", 90, y.fits(0));
            is("the first", 1, y.fits(1));
            CopyKeeper z = with("library 9;work 9 9;work 1 2;holds 0 1 3;");
            is("note", 1, z.note(0));
            is("KEEP 3 to 15 of WORK 1", 13, z.fits(0));
            is("the first", 103, z.fits(1));
            z.keep(1, 3);
            is("KEEPS of WORK 0 as well: all but 9", 15 + 12, z.fits(0));
            is("the first", 0, z.fits(1));
            is("without", 1, z.fits(2));
        });
        holds(22, "that SPACE of THE PLAN is so (NONE: there is none)", () -> {
            CopyKeeper x = with("library 1;work 2 1;holds 0 0 3;");
            is("note", 1, x.note(NONE));
            is("there is a PLAN", 0, x.fits(2));
            is("not by KEEP 2 to 15", 14, x.fits(0));
            is("the first", 2, x.fits(1));
            is("note", 2, x.note(4));
            is("both can't be", 0, x.fits(0));
            is("none", NONE, x.fits(1));
            x.forget();
            x.room(0, 0, 0);
            is("note", 1, x.note(NONE));
            is("there is none", 1, x.fits(2));
            is("note", 2, x.note(NONE));
            is("nor by KEEP 2 to 15", 14, x.fits(0));
        });
    }

    private static void looks() {
        holds(23, "NoSuchElementException: another what.", () -> {
            for (CopyKeeper x : new CopyKeeper[] {new CopyKeeper(), with(ONE)}) {
                for (int what = 0; what <= 1; what++) x.look(what);
                noSuch("look(2)", () -> x.look(2));
                for (int far : FAR) noSuch("look(" + far + ")", () -> x.look(far));
            }
        });
        holds(23, "LOOK NEXT: which (what 0; NONE), how many unlike (1; 0: none).", () -> {
            CopyKeeper x = with(ONE);
            is("SPACE 6 2 0", 0, x.look(0));
            is("how many", 3, x.look(1));
            x.note(0);
            is("all of SPACE 0", 0, x.look(0));
            is("one", 1, x.look(1));
            x.note(2);
            is("none fits", NONE, x.look(0));
            is("0", 0, x.look(1));
            CopyKeeper y = new CopyKeeper();
            is("no LIBRARIES, no WORKS", NONE, y.look(0));
            is("0", 0, y.look(1));
            CopyKeeper z = with("work 1 0;");
            is("no LIBRARIES", NONE, z.look(0));
            is("0", 0, z.look(1));
            CopyKeeper w = with("library 1;");
            is("no WORKS", NONE, w.look(0));
            is("0", 0, w.look(1));
        });
        holds(23, "the LIBRARY by which, were its ROOM one less (if it isn't 0), SPACE (or none) is by these most unlike "
                + "(of like ones the first)", () -> {
            // WISH 0: only a NEED tells anything
            CopyKeeper x = with("library 3 0;library 9 0;library 2 0;work 1 6;holds 0 0 3;holds 1 0 1;holds 2 0 1;");
            is("0: ROOM 2, NEED 1, so 1 by KEEP 0 to 4 and none beyond", 0, x.look(0));
            is("two", 2, x.look(1));
            x.room(0, 0, 4);
            is("none tells more: the first", 0, x.look(0));
            is("one", 1, x.look(1));
            x.room(2, 0, 1);
            is("2", 2, x.look(0));
            is("two", 2, x.look(1));
            x.room(0, 0, 3);
            is("of like ones the first", 0, x.look(0));
            x.room(2, 0, 0);
            is("NEED 1 by ROOM 0 as it is: two by each", 0, x.look(0));
            is("two", 2, x.look(1));
        });
        holds(23, "(if it isn't 0)", () -> {
            CopyKeeper x = with("library 0 0;work 1 6;holds 0 0 1;");
            is("ROOM 0 stays: 1 by KEEP 0, none by the others", 0, x.look(0));
            is("two", 2, x.look(1));
            CopyKeeper y = with("library 0 0;library 0 9;work 1 2;holds 1 0 2;");
            is("NEED 2: SPACE 2 by KEEP 0, none by the others, for both", 0, y.look(0));
            is("two", 2, y.look(1));
            y.note(NONE);
            is("none of all that fit", 0, y.look(0));
            is("one", 1, y.look(1));
        });
        holds(23, "none without any", () -> {
            CopyKeeper x = with("library 3;library 3;work 1 0;holds 0 0 3;");
            x.note(999);
            is("none fits", 0, x.fits(0));
            is("which", NONE, x.look(0));
            is("how many", 0, x.look(1));
            x.forget();
            is("all fit", 15, x.fits(0));
            is("which", 0, x.look(0));
            is("2 1 0, and none: ROOM 2, NEED 1", 3, x.look(1));
            x.note(3);
            is("only it itself is so", 0, x.fits(0));
            is("that isn't among these", NONE, x.look(0));
            is("how many", 0, x.look(1));
            x.forget();
            x.note(2);
            is("one fits", 1, x.fits(0));
            is("which", 0, x.look(0));
            is("how many", 1, x.look(1));
        });
        holds(23, "SPACE (or none) is by these most unlike", () -> {
            // 0 can't be rid of what it PROMISED; 1 has room enough
            CopyKeeper x = with("library 1 0;library 9;work 1 0;work 1 0;holds 0 0 1;promise 0 0 1 9;holds 1 1 2;");
            is("2 by KEEPS of WORK 0, 1 and 0 by those of WORK 1", 1, x.look(0));
            is("three", 3, x.look(1));
            // KEEPS of WORK 1 don't meet with those of WORK 0
            CopyKeeper y = with("library 9;work 1 0;work 1 0;holds 0 0 2;holds 0 1 1;");
            is("2 1 by KEEPS of WORK 0, 2 by those of WORK 1", 2, y.look(1));
            // SPACES 80 72 .. 0 and none
            CopyKeeper z = with("library 9;library 9;library 9;library 1;work 8 15;holds 0 0 3;holds 1 0 3;holds 2 0 3;holds 3 0 1;");
            is("80 72 .. 8 and 0; by the last one none instead of 0: the first", 0, z.look(0));
            is("eleven", 11, z.look(1));
            // the greatest SPACES: 810 less 9 for each copy
            CopyKeeper w = with("library 0;".repeat(5) + "work 9 0;".repeat(6) + Tape.pairs(5, 6, "holds", "3"));
            is("none by any: all must go", 1, w.look(1));
            for (int l = 0; l < 5; l++) w.room(l, 0, 18);
            is("801 to 675, as all LIBRARIES have room", 15, w.look(1));
            is("the first", 0, w.look(0));
            is("note", 1, w.note(801));
            is("KEEP 1 of each WORK", 6, w.fits(0));
            is("note", 2, w.note(810));
            is("not both", 0, w.fits(0));
        });
    }

    private static void forgets() {
        holds(24, "All that is NOTED is forgotten.", () -> {
            CopyKeeper x = with(ONE);
            x.forget();
            is("none before", 0, x.count(18));
            for (int i = 1; i <= 6; i++) is("note", i, x.note(i));
            is("a 7th", NONE, x.note(7));
            x.forget();
            is("NOTED", 0, x.count(18));
            is("STATUS stays", 1, x.count(22));
            is("all are so", 1, x.fits(2));
            for (int i = 1; i <= 6; i++) is("note", i, x.note(4));
            is("none of those before counts", 1, x.fits(2));
            is("a 7th", NONE, x.note(4));
            is("no ACTS", 0, x.count(17));
        });
    }

    private static int next(int seed) {
        BigInteger all = BigInteger.valueOf(seed).multiply(BigInteger.valueOf(1103515245)).add(BigInteger.valueOf(12345));
        return all.mod(BigInteger.ONE.shiftLeft(32)).intValue();
    }

    private static int drawOf(int seed, int n) {
        return BigInteger.valueOf(seed & 0xffffffffL).shiftRight(16).and(BigInteger.valueOf(32767)).intValue() % n;
    }

    /** Whether the first DRAWS of a seed, each of so many, are those wanted. */
    private static boolean draws(int seed, int[] of, int[] want) {
        for (int i = 0; i < of.length; i++) {
            seed = next(seed);
            if (drawOf(seed, of[i]) != want[i]) return false;
        }
        return true;
    }

    /** A seed from 'from' on whose first DRAWS are those wanted. */
    private static int seedOf(int from, int[] of, int... want) {
        for (int seed = from; seed < from + 5000000; seed++) if (draws(seed, of, want)) return seed;
        throw new IllegalStateException("no such seed");
    }

    private static void numbersOfDraws() {
        holds(25, "NoSuchElementException: another what. IllegalArgumentException (behind that): n.", () -> {
            for (CopyKeeper x : new CopyKeeper[] {new CopyKeeper(), with(ONE)}) {
                for (int what = 0; what <= 2; what++) {
                    int k = what;
                    x.drawn(1, 0, k);
                    x.drawn(1, 40, k);
                    illegal("n 41", () -> x.drawn(1, 41, k));
                    for (int far : FAR) illegal("n " + far, () -> x.drawn(1, far, k));
                }
                noSuch("what 3", () -> x.drawn(1, 1, 3));
                for (int far : FAR) {
                    noSuch("what " + far, () -> x.drawn(1, 1, far));
                    noSuch("what " + far + ", n 41", () -> x.drawn(1, 41, far));
                    noSuch("what 3, n " + far, () -> x.drawn(1, far, 3));
                }
            }
        });
        holds(25, "YEARS by a seed: copies (what 0), that went (1), PLANS (2).", () -> {
            CopyKeeper x = with("library 1;library 9;work 2 0;holds 0 0 3;holds 1 0 3;store 3;");
            is("went before", 5, x.go(0, 0));
            is("sent before", 1, x.send(1, 0));
            is("none drawn: all that LIBRARIES HOLD", 4, x.drawn(77, 0, 0));
            is("none went in it", 0, x.drawn(77, 0, 1));
            is("none was carried out", 0, x.drawn(77, 0, 2));
            String before = picture(x);
            for (int what = 0; what < 3; what++) for (int seed = 0; seed < 20; seed++) x.drawn(seed * 1234567, 40, what);
            same("nothing changes", before, picture(x));
            is("nor is any refused", 0, x.count(21));
        });
        holds(25, "A seed becomes itself times 1103515245 and 12345 (an int that wraps)", () -> {
            CopyKeeper x = new CopyKeeper();
            int[] seeds = {0, 1, -1, MIN, MAX, 12345, -1103515245, 1 << 16, 1 << 30, -77777777};
            for (int seed : seeds) {
                for (int n : new int[] {0, 1, 2, 39, 40}) {
                    // without LIBRARIES each DRAW is one of 6
                    int plans = 0, now = seed;
                    for (int i = 0; i < n; i++) {
                        now = next(now);
                        if (drawOf(now, 6) == 5) plans++;
                    }
                    is("PLANS of " + n + " by seed " + seed, plans, x.drawn(seed, n, 2));
                }
            }
        });
        holds(25, "a DRAW of n is its bits 16 to 30 MOD n then", () -> {
            // seed -1 becomes -1103502900: bits 16 to 30 are 15929, 5 MOD 6; with bit 31 it were 48697, 1 MOD 6
            CopyKeeper x = with("library 9;work 1 0;holds 0 0 1;");
            is("THE PLAN is carried out", 1, x.drawn(-1, 1, 2));
            is("one went", 1, x.drawn(-1, 1, 1));
            // seed 1 becomes 1103527590: bits 16 to 30 are 16838, 2 MOD 6
            is("one GOES", 0, x.drawn(1, 1, 0));
            is("it went", 1, x.drawn(1, 1, 1));
        });
    }

    private static void draws() {
        holds(25, "0, 1 a copy more of a DRAW of WORKS in a DRAW of LIBRARIES, if that HOLDS fewer than 3", () -> {
            StringBuilder all = new StringBuilder("library 0;library 0;library 0;work 1 0;work 1 0;");
            for (int l = 0; l < 3; l++) for (int w = 0; w < 2; w++) if (l != 2 || w != 1) all.append("holds ").append(l).append(' ').append(w).append(" 3;");
            CopyKeeper x = with(all.toString());
            int[] of = {6, 2, 3};
            for (int copies = 0; copies <= 3; copies++) {
                if (copies > 0) x.own(2, 1, copies);
                for (int kind = 0; kind < 2; kind++) {
                    int seed = 0;
                    for (int i = 0; i < 4; i++) {
                        seed = seedOf(seed + 1, of, kind, 1, 2);
                        is("one more, ROOM or not, but of 3", 15 + Math.min(3, copies + 1), x.drawn(seed, 1, 0));
                        is("none went", 0, x.drawn(seed, 1, 1));
                    }
                    is("of another WORK", 15 + copies, x.drawn(seedOf(0, of, kind, 0, 2), 1, 0));
                    is("in another LIBRARY", 15 + copies, x.drawn(seedOf(0, of, kind, 1, 1), 1, 0));
                }
            }
        });
        holds(25, "2 one GOES there, if it MAY (WORK, LIBRARY likewise)", () -> {
            CopyKeeper x = with("library 9;library 9;library 9;work 1 1;work 1 3;holds 2 0 2;holds 2 1 3;");
            int[] of = {6, 2, 3};
            int first = seedOf(0, of, 2, 0, 2), second = seedOf(0, of, 2, 1, 2), none = seedOf(0, of, 2, 0, 0);
            is("SPARE 1", 4, x.drawn(first, 1, 0));
            is("went", 1, x.drawn(first, 1, 1));
            is("SPARE 0", 5, x.drawn(second, 1, 0));
            is("went", 0, x.drawn(second, 1, 1));
            is("it HOLDS none", 0, x.drawn(none, 1, 1));
            x.keep(1, 2);
            is("SPARE 1", 1, x.drawn(second, 1, 1));
            x.promise(2, 1, 3, 0);
            is("PROMISED", 0, x.drawn(second, 1, 1));
            x.years(1);
            is("not any more", 1, x.drawn(second, 1, 1));
            int twice = seedOf(0, new int[] {6, 2, 3, 6, 2, 3}, 2, 0, 2, 2, 0, 2);
            is("SPARE 1, then 0", 1, x.drawn(twice, 2, 1));
            x.keep(0, 0);
            is("both", 2, x.drawn(twice, 2, 1));
        });
        holds(25, "3 a YEAR goes by, if it isn't 60", () -> {
            int[] of = {6, 6, 1, 1};
            int seed = seedOf(0, of, 3, 2, 0, 0);
            CopyKeeper x = with("library 9;work 1 0;holds 0 0 1;promise 0 0 1 0;");
            is("YEAR 1: the PROMISE of 0 doesn't count", 1, x.drawn(seed, 2, 1));
            is("without it", 0, x.drawn(seed, 1, 1));
            x.promise(0, 0, 1, 1);
            is("that of 1 does", 0, x.drawn(seed, 2, 1));
            x.promise(0, 0, 1, 59);
            for (int year = 9; year <= 54; year += 9) x.years(9);
            is("59", 59, x.years(5));
            is("YEAR 60: that of 59 doesn't count", 1, x.drawn(seed, 2, 1));
            x.promise(0, 0, 1, 60);
            is("that of 60 does", 0, x.drawn(seed, 2, 1));
            is("60", 60, x.years(1));
            is("YEAR is never 61", 0, x.drawn(seed, 2, 1));
            is("YEAR stays", 60, x.count(2));
        });
        holds(25, "4 one is GIVEN, a DRAW of WORKS, of LIBRARIES, of LIBRARIES (by the first one to the second one), if it can be", () -> {
            // GIVEN by 2 to 1, then one GOES in 1: or, behind that, in 2
            int[] of = {6, 2, 3, 3, 6, 2, 3};
            int there = seedOf(0, of, 4, 1, 2, 1, 2, 1, 1), here = seedOf(0, of, 4, 1, 2, 1, 2, 1, 2);
            CopyKeeper x = with("library 9;library 1;library 9;work 1 0;work 1 0;holds 2 1 1;");
            is("as many copies", 1, x.drawn(there, 1, 0));
            is("none went", 0, x.drawn(there, 1, 1));
            is("it is there", 1, x.drawn(there, 2, 1));
            is("not here any more", 0, x.drawn(here, 2, 1));
            x.room(1, 0, 0);
            is("ROOM 0: not there", 0, x.drawn(there, 2, 1));
            is("still here", 1, x.drawn(here, 2, 1));
            x.room(1, 0, 9);
            x.promise(2, 1, 1, 0);
            is("PROMISED: not there", 0, x.drawn(there, 2, 1));
            x.promise(2, 1, 0, 0);
            is("there", 1, x.drawn(there, 2, 1));
            x.own(1, 1, 3);
            x.promise(1, 1, 3, 9);
            is("3 are there: none that is not PROMISED", 0, x.drawn(there, 2, 1));
            is("still here", 1, x.drawn(here, 2, 1));
            x.own(1, 1, 2);
            is("not here any more", 0, x.drawn(here, 2, 1));
            int itself = seedOf(0, of, 4, 1, 2, 2, 2, 1, 2);
            is("by itself to itself: as it was", 1, x.drawn(itself, 2, 1));
            x.own(2, 1, 0);
            is("it has none", 2, x.drawn(there, 1, 0));
        });
        holds(25, "5 THE PLAN is carried out, if there is one", () -> {
            int[] of = {6, 6, 6};
            int once = seedOf(0, of, 5, 3, 3), thrice = seedOf(0, of, 5, 5, 5), late = seedOf(0, of, 3, 5, 5);
            CopyKeeper x = with("library 1 1;library 9 0;work 2 1;holds 0 0 3;holds 1 0 1;promise 0 0 2 0;");
            is("OFFER 1, NEED 2: none", 0, x.drawn(once, 1, 2));
            is("none went", 0, x.drawn(once, 1, 1));
            is("nor in three", 0, x.drawn(thrice, 3, 2));
            is("behind the PROMISE: twice", 2, x.drawn(late, 3, 2));
            is("2, then 1 by WISH: copies", 1, x.drawn(late, 3, 0));
            is("that went", 3, x.drawn(late, 3, 1));
            x.promise(0, 0, 0, 0);
            is("once", 1, x.drawn(once, 3, 2));
            is("2 went", 2, x.drawn(once, 3, 1));
            is("three times, at last of none", 3, x.drawn(thrice, 3, 2));
            is("2, 1 and none", 3, x.drawn(thrice, 3, 1));
            is("SPARE behind one that went before it", 2, x.go(0, 0));
            is("what went before isn't in it", 2, x.drawn(thrice, 3, 1));
        });
        holds(25, "(without LIBRARIES or WORKS nothing is drawn behind 0 to 2, 4)", () -> {
            CopyKeeper[] without = {new CopyKeeper(), with("work 1 0;work 1 0;"), with("library 1;library 1;")};
            for (int kind : new int[] {0, 1, 2, 4}) {
                // the second DRAW of 6 is 5; those behind it aren't
                int seed = seedOf(0, new int[] {6, 6}, kind, 5);
                while (draws(next(next(seed)), new int[] {6}, new int[] {5})
                        || draws(next(next(next(seed))), new int[] {6}, new int[] {5})) {
                    seed = seedOf(seed + 1, new int[] {6, 6}, kind, 5);
                }
                for (CopyKeeper x : without) {
                    is("a PLAN behind " + kind, 1, x.drawn(seed, 2, 2));
                    is("none behind " + kind + " alone", 0, x.drawn(seed, 1, 2));
                    is("copies", 0, x.drawn(seed, 2, 0));
                    is("that went", 0, x.drawn(seed, 2, 1));
                }
            }
        });
    }

    private static int kept(CopyKeeper x) {
        return x.restore() ? 1 : 0;
    }

    private static void images() {
        holds(27, "It is as the IMAGE again: true. False: there is none.", () -> {
            CopyKeeper x = new CopyKeeper();
            is("none", 0, kept(x));
            is("years", 3, x.years(3));
            is("none", 0, kept(x));
            is("and nothing changes", 3, x.count(2));
            x.image();
            is("years", 4, x.years(1));
            for (int i = 0; i < 3; i++) {
                is("restore", 1, kept(x));
                is("YEAR", 3, x.count(2));
                is("ACTS", 1, x.count(17));
                is("undo", 0, x.undo());
                is("YEAR", 0, x.count(2));
            }
            is("a FAULT", 1, read(x, "x"));
            is("the image stays", 1, kept(x));
            is("desk", 0, x.desk(0));
            is("it is gone", 0, kept(x));
            x.image();
            is("one of nothing", 1, kept(x));
        });
        holds(26, "AN IMAGE is kept, in place of another one.", () -> {
            CopyKeeper x = with(ONE);
            x.image();
            is("keep", 1, x.keep(0, 2));
            x.image();
            is("keep", 2, x.keep(0, 3));
            is("restore", 1, kept(x));
            is("that of KEEP 2", 2, x.work(0, 1));
            is("undo", 0, x.undo());
            is("KEEP 1", 1, x.work(0, 1));
            is("restore", 1, kept(x));
            is("still KEEP 2", 2, x.work(0, 1));
        });
        holds(26, "AN IMAGE keeps all that ACTS change, ACTS that are kept, what is NOTED, STATUS.", () -> {
            CopyKeeper x = with("library 2 1;work 3 0;holds 0 0 3;promise 0 0 1 5;store 2;");
            is("years", 2, x.years(2));
            is("note", 1, x.note(3));
            is("refused", NONE, x.note(-2));
            is("refused", NONE, x.years(0));
            is("refused", 1, read(x, "x"));
            String before = picture(x);
            x.image();
            is("own", 3, x.own(0, 0, 2));
            is("promise", 1, x.promise(0, 0, 0, 0));
            is("send", 1, x.send(0, 0));
            is("go", 1, x.go(0, 0));
            is("keep", 0, x.keep(0, 1));
            is("ROOM", 2, x.room(0, 0, 9));
            is("WISH", 1, x.room(0, 1, 9));
            is("years", 9, x.years(7));
            is("carry", 0, x.carry());
            is("note", 2, x.note(4));
            is("refused", NONE, x.note(1000));
            is("refused", NONE, x.years(10));
            is("refused", 1, read(x, " x"));
            x.feed(0, 0, 0, 0, 0);
            is("restore", 1, kept(x));
            same("all that ACTS change", before, picture(x));
            is("STATUS 0", 1, x.count(20));
            is("STATUS 1", 1, x.count(21));
            is("STATUS 2", 1, x.count(22));
            is("NOTED", 1, x.count(18));
            is("what is NOTED", 1, x.fits(2));
            is("the ACT", 0, x.undo());
            is("YEAR", 0, x.count(2));
            is("restore", 1, kept(x));
            x.forget();
            is("note", 1, x.note(77));
            is("not so", 0, x.fits(2));
            is("restore", 1, kept(x));
            is("what was NOTED", 1, x.fits(2));
            x.image();
            x.forget();
            is("note", 1, x.note(77));
            x.image();
            x.forget();
            is("restore", 1, kept(x));
            is("what was NOTED ahead of that one", 0, x.fits(2));
            is("the tape isn't in it", 20, x.count(19));
            is("nor is the FAULT's place", 1, x.fault());
        });
        holds(27, "It is as the IMAGE again", () -> {
            // THE PLAN was asked for right ahead of it
            CopyKeeper x = with("library 9;work 2 0;holds 0 0 3;");
            x.image();
            is("keep", 0, x.keep(0, 2));
            same("THE PLAN", "1", plan(x));
            is("restore", 1, kept(x));
            same("THE PLAN", "3", plan(x));
            is("carry", 3, x.carry());
            same("THE PLAN", "0", plan(x));
            is("restore", 1, kept(x));
            is("carry", 3, x.carry());
            is("undo", 0, x.undo());
            same("THE PLAN", "3", plan(x));
        });
        holds(26, "ACTS that are kept", () -> {
            // 40 are kept in the image; others come into their places, and it stands again
            CopyKeeper x = with("library 9;work 1 0;");
            for (int i = 1; i <= 43; i++) x.keep(0, i % 16);
            x.image();
            for (int i = 0; i < 45; i++) x.room(0, 0, i % 20);
            is("restore", 1, kept(x));
            is("ROOM", 9, x.library(0, 0));
            for (int left = 39; left >= 0; left--) {
                is("undo", left, x.undo());
                is("KEEP", (left + 3) % 16, x.work(0, 1));
            }
            is("none", NONE, x.undo());
            is("restore", 1, kept(x));
            is("40 again", 40, x.count(17));
            is("one more", 11, x.keep(0, 0));
            is("40 still", 40, x.count(17));
        });
    }
}
