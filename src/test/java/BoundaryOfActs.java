/** Boundary cases of promises 11 to 20: ACTS, those that are refused, and those that are UNDONE. */
public final class BoundaryOfActs extends Sheet {
    private static final int MIN = Integer.MIN_VALUE;
    private static final int MAX = Integer.MAX_VALUE;
    /** One LIBRARY and one WORK, of which two copies may go. */
    private static final String ONE = "library 9;work 2 1;holds 0 0 3;store 1;";
    private static final String TWO = "library 2 1;library 9;work 3 1;work 2 0;holds 0 0 3;holds 1 0 1;holds 1 1 2;"
            + "promise 1 0 1 5;store 2;";

    public static void main(String[] args) {
        owning();
        promising();
        keeping();
        rooms();
        going();
        giving();
        sending();
        carrying();
        years();
        undoing();
        end();
    }

    /** Each call answers NONE, counts in STATUS 1 alone and changes nothing. */
    private static void refused(CopyKeeper x, Call... calls) {
        String before = picture(x);
        int many = x.count(21), texts = x.count(20), notes = x.count(22);
        for (int i = 0; i < calls.length; i++) {
            is("refused call " + i, NONE, calls[i].ask());
            is("STATUS 1 behind it", many + i + 1, x.count(21));
        }
        same("all else", before, picture(x));
        is("STATUS 0", texts, x.count(20));
        is("STATUS 2", notes, x.count(22));
    }

    /** The last ACT is UNDONE, and all is as before it. */
    private static void undone(CopyKeeper x, String before, int left) {
        is("undo", left, x.undo());
        same("UNDONE", before, picture(x));
    }

    private static void owning() {
        holds(11, "A LIBRARY HOLDS so many (0 to 3): how many it held.", () -> {
            CopyKeeper x = with("library 0;work 1 0;");
            int before = 0;
            for (int copies : new int[] {1, 2, 3, 0, 3, 1, 0, 2, 0}) {
                is("own " + copies, before, x.own(0, 0, copies));
                is("HOLDS", copies, x.held(0, 0, 0));
                before = copies;
            }
            is("ROOM isn't looked at", 0, x.own(0, 0, 3));
            is("NEED", 3, x.library(0, 3));
            is("ACTS", 10, x.count(17));
            is("none went", 0, x.count(4));
        });
        holds(11, "NONE (STATUS 1): no such LIBRARY, WORK (as of all ACTS), another number, it is so already.", () -> {
            CopyKeeper x = with(ONE);
            refused(x, () -> x.own(0, 0, 4), () -> x.own(0, 0, -1), () -> x.own(0, 0, MIN), () -> x.own(0, 0, MAX),
                    () -> x.own(0, 0, 3));
            refused(x, () -> x.own(1, 0, 1), () -> x.own(-1, 0, 1), () -> x.own(MIN, 0, 1), () -> x.own(MAX, 0, 1),
                    () -> x.own(0, 1, 1), () -> x.own(0, -1, 1), () -> x.own(0, MIN, 1), () -> x.own(0, MAX, 1));
            is("own", 3, x.own(0, 0, 0));
            refused(x, () -> x.own(0, 0, 0));
            CopyKeeper y = with("library 1;".repeat(5) + "work 1 0;".repeat(6));
            is("the last of all", 0, y.own(4, 5, 1));
            is("one behind", NONE, y.own(5, 5, 1));
            is("one behind", NONE, y.own(4, 6, 1));
        });
        holds(11, "no such LIBRARY, WORK (as of all ACTS)", () -> {
            for (CopyKeeper x : new CopyKeeper[] {new CopyKeeper(), with("library 1;"), with("work 1 1;")}) {
                boolean library = x.count(0) == 1, work = x.count(1) == 1;
                refused(x, () -> x.own(0, 0, 1), () -> x.promise(0, 0, 1, 1), () -> x.go(0, 0), () -> x.give(0, 1, 0),
                        () -> x.send(0, 0));
                is("keep", work ? 1 : NONE, x.keep(0, 1));
                is("room", library ? 1 : NONE, x.room(0, 0, 1));
            }
        });
    }

    private static void promising() {
        holds(12, "A PROMISE, until a YEAR (0 to 60)", () -> {
            CopyKeeper x = with(ONE);
            is("promise", 0, x.promise(0, 0, 1, 0));
            is("YEAR 0", 0, x.held(0, 0, 2));
            is("promise", 1, x.promise(0, 0, 3, 60));
            is("YEAR 60", 60, x.held(0, 0, 2));
            is("MUCH", 3, x.held(0, 0, 1));
            is("promise", 3, x.promise(0, 0, 2, 60));
            is("so it was already: an ACT all the same", 2, x.promise(0, 0, 2, 60));
            is("ACTS", 4, x.count(17));
            is("more than it HOLDS", 3, x.own(0, 0, 1));
            is("promise", 2, x.promise(0, 0, 3, 1));
            is("of the past", 9, x.years(9));
            is("promise", 3, x.promise(0, 0, 1, 8));
            is("it doesn't count", 0, x.held(0, 0, 3));
        });
        holds(12, "MUCH 0: none any more (the YEAR isn't looked at): MUCH of the one there was (0).", () -> {
            CopyKeeper x = with(ONE);
            for (int year : new int[] {0, 60, 61, -1, MIN, MAX}) {
                is("promise", 0, x.promise(0, 0, 2, 7));
                is("none, " + year, 2, x.promise(0, 0, 0, year));
                is("MUCH", 0, x.held(0, 0, 1));
                is("YEAR", NONE, x.held(0, 0, 2));
            }
            is("ACTS", 12, x.count(17));
            is("UNDONE", 11, x.undo());
            is("MUCH again", 2, x.held(0, 0, 1));
            is("YEAR again", 7, x.held(0, 0, 2));
        });
        holds(12, "NONE (STATUS 1): also MUCH not 0 to 3, the YEAR; 0, and there is none.", () -> {
            CopyKeeper x = with(ONE);
            refused(x, () -> x.promise(0, 0, 0, 5), () -> x.promise(0, 0, 4, 5), () -> x.promise(0, 0, -1, 5),
                    () -> x.promise(0, 0, MIN, 5), () -> x.promise(0, 0, MAX, 5), () -> x.promise(0, 0, 1, 61),
                    () -> x.promise(0, 0, 1, -1), () -> x.promise(0, 0, 3, MIN), () -> x.promise(0, 0, 3, MAX));
            refused(x, () -> x.promise(1, 0, 1, 1), () -> x.promise(-1, 0, 1, 1), () -> x.promise(MAX, 0, 1, 1),
                    () -> x.promise(0, 1, 1, 1), () -> x.promise(0, -1, 1, 1), () -> x.promise(0, MIN, 1, 1));
            is("promise", 0, x.promise(0, 0, 1, 5));
            refused(x, () -> x.promise(0, 0, 4, 5), () -> x.promise(0, 0, 2, 61), () -> x.promise(0, 1, 0, 5),
                    () -> x.promise(1, 0, 0, 5));
            is("none", 1, x.promise(0, 0, 0, 5));
            refused(x, () -> x.promise(0, 0, 0, 5));
            is("none of one that doesn't count any more", 0, x.promise(0, 0, 1, 0));
            is("years", 1, x.years(1));
            is("it was there", 1, x.promise(0, 0, 0, 0));
        });
        holds(12, "a PROMISE is told (in place of another one)", () -> {
            CopyKeeper x = with(ONE);
            is("promise", 0, x.promise(0, 0, 3, 60));
            String before = picture(x);
            is("promise", 3, x.promise(0, 0, 1, 0));
            is("OFFER", 2, x.held(0, 0, 4));
            is("YEAR", 0, x.held(0, 0, 2));
            undone(x, before, 1);
            is("YEAR", 60, x.held(0, 0, 2));
        });
    }

    private static void keeping() {
        holds(13, "KEEP is told (0 to 15): what it was.", () -> {
            CopyKeeper x = with(ONE);
            int before = 1;
            for (int keep : new int[] {0, 15, 15, 1, 14, 0, 0}) {
                is("keep " + keep, before, x.keep(0, keep));
                is("KEEP", keep, x.work(0, 1));
                before = keep;
            }
            is("ACTS, those that change nothing, too", 7, x.count(17));
        });
        holds(13, "NONE (STATUS 1): also another number.", () -> {
            CopyKeeper x = with(ONE);
            refused(x, () -> x.keep(0, 16), () -> x.keep(0, -1), () -> x.keep(0, MIN), () -> x.keep(0, MAX),
                    () -> x.keep(1, 1), () -> x.keep(-1, 1), () -> x.keep(MIN, 1), () -> x.keep(MAX, 1));
        });
    }

    private static void rooms() {
        holds(14, "ROOM (what 0), WISH (1) is told (0 to 20): what it was.", () -> {
            CopyKeeper x = with("library 9;work 1 0;");
            int room = 9, wish = 20;
            for (int copies : new int[] {0, 20, 20, 1, 19, 0, 0}) {
                is("ROOM " + copies, room, x.room(0, 0, copies));
                is("it is", copies, x.library(0, 0));
                is("WISH isn't touched", wish, x.library(0, 1));
                is("WISH " + copies, wish, x.room(0, 1, copies));
                is("it is", copies, x.library(0, 1));
                is("ROOM isn't touched", copies, x.library(0, 0));
                room = copies;
                wish = copies;
            }
            is("ACTS, those that change nothing, too", 14, x.count(17));
        });
        holds(14, "NONE (STATUS 1): also another number, another what.", () -> {
            CopyKeeper x = with(ONE);
            refused(x, () -> x.room(0, 0, 21), () -> x.room(0, 1, 21), () -> x.room(0, 0, -1), () -> x.room(0, 1, -1),
                    () -> x.room(0, 0, MIN), () -> x.room(0, 1, MAX), () -> x.room(0, 2, 5), () -> x.room(0, -1, 5),
                    () -> x.room(0, MIN, 5), () -> x.room(0, MAX, 5));
            refused(x, () -> x.room(1, 0, 5), () -> x.room(1, 1, 5), () -> x.room(-1, 0, 5), () -> x.room(MIN, 1, 5),
                    () -> x.room(MAX, 0, 5));
        });
    }

    private static void going() {
        holds(15, "A copy GOES: SPARE then.", () -> {
            CopyKeeper x = with("library 9;library 9;work 2 1;holds 0 0 3;holds 1 0 1;");
            is("go", 2, x.go(0, 0));
            is("go", 1, x.go(1, 0));
            is("the last SPARE", 0, x.go(0, 0));
            is("went", 3, x.count(4));
            is("HOLDS", 1, x.held(0, 0, 0));
        });
        holds(15, "NONE (STATUS 1): also it MAY not.", () -> {
            CopyKeeper x = with("library 9;work 2 0;work 1 0;holds 0 0 2;promise 0 0 1 0;");
            refused(x, () -> x.go(0, 1), () -> x.go(1, 0), () -> x.go(-1, 0), () -> x.go(MIN, 0), () -> x.go(0, 2),
                    () -> x.go(0, -1), () -> x.go(0, MAX));
            is("OFFER 1", 1, x.go(0, 0));
            refused(x, () -> x.go(0, 0));
            is("years", 1, x.years(1));
            x.keep(0, 1);
            refused(x, () -> x.go(0, 0));
            x.keep(0, 0);
            is("SPARE 1", 0, x.go(0, 0));
            refused(x, () -> x.go(0, 0));
            is("went", 2, x.count(4));
        });
    }

    private static void giving() {
        holds(16, "A copy is GIVEN by a LIBRARY to another one: how many that HOLDS of it then.", () -> {
            CopyKeeper x = with("library 0;library 9;work 2 15;holds 0 0 3;");
            for (int i = 1; i <= 3; i++) is("give", i, x.give(0, 1, 0));
            is("copies are as many", 3, x.count(3));
            is("SHORT or not isn't looked at", 12, x.work(0, 4));
            is("none went", 0, x.count(4));
        });
        holds(16, "NONE (STATUS 1): also they are one, it can't be.", () -> {
            CopyKeeper x = with("library 9;library 9;work 2 0;holds 0 0 1;");
            refused(x, () -> x.give(0, 0, 0), () -> x.give(1, 1, 0), () -> x.give(1, 0, 0));
            refused(x, () -> x.give(0, 2, 0), () -> x.give(0, -1, 0), () -> x.give(0, MIN, 0), () -> x.give(0, MAX, 0),
                    () -> x.give(2, 0, 0), () -> x.give(-1, 0, 0), () -> x.give(MAX, 0, 0), () -> x.give(0, 1, 1),
                    () -> x.give(0, 1, -1), () -> x.give(0, 1, MIN));
            is("give", 1, x.give(0, 1, 0));
            refused(x, () -> x.give(0, 1, 0));
        });
        holds(16, "if its OFFER is above 0, and that one HOLDS fewer than 3 of it, and fewer in all than its ROOM", () -> {
            CopyKeeper x = with("library 9;library 4;work 2 0;work 1 0;holds 0 0 3;holds 1 0 2;holds 1 1 2;promise 0 0 3 0;");
            refused(x, () -> x.give(0, 1, 0));
            x.promise(0, 0, 2, 0);
            refused(x, () -> x.give(0, 1, 0));
            x.room(1, 0, 5);
            is("OFFER 1, 2 of it, 4 of ROOM 5", 3, x.give(0, 1, 0));
            x.promise(0, 0, 0, 0);
            x.room(1, 0, 9);
            refused(x, () -> x.give(0, 1, 0));
            x.own(1, 0, 2);
            x.room(1, 0, 4);
            refused(x, () -> x.give(0, 1, 0));
            x.room(1, 0, 3);
            refused(x, () -> x.give(0, 1, 0));
            x.room(1, 0, 5);
            is("so it can be", 3, x.give(0, 1, 0));
        });
    }

    private static void sending() {
        holds(17, "A copy is SENT to THE STORE: how many of that WORK are there then.", () -> {
            CopyKeeper x = with("library 9;work 2 15;work 1 0;holds 0 0 3;holds 0 1 3;store 20;");
            for (int i = 1; i <= 3; i++) is("send", i, x.send(0, 0));
            is("of the other one", 1, x.send(0, 1));
            is("own", 0, x.own(0, 0, 1));
            is("more than 3 of one may be there", 4, x.send(0, 0));
            is("in all", 5, x.count(26));
            is("copies", 4, x.work(0, 2));
            is("none went", 0, x.count(4));
        });
        holds(17, "if its OFFER is above 0, and THE STORE has room", () -> {
            CopyKeeper x = with("library 9;work 2 1;holds 0 0 3;store 2;promise 0 0 3 0;");
            refused(x, () -> x.send(0, 0));
            x.promise(0, 0, 2, 0);
            is("OFFER 1", 1, x.send(0, 0));
            refused(x, () -> x.send(0, 0));
            x.promise(0, 0, 0, 0);
            is("room for the last", 2, x.send(0, 0));
            refused(x, () -> x.send(0, 0));
            is("undo", 3, x.undo());
            is("room again", 2, x.send(0, 0));
            CopyKeeper y = with("library 9;work 2 1;holds 0 0 3;");
            refused(y, () -> y.send(0, 0));
            CopyKeeper z = with("library 9;work 2 1;holds 0 0 3;store 0;");
            refused(z, () -> z.send(0, 0));
        });
        holds(17, "NONE (STATUS 1): also it can't be.", () -> {
            CopyKeeper x = with("library 9;work 2 1;work 1 0;holds 0 0 1;store 9;");
            refused(x, () -> x.send(0, 1), () -> x.send(1, 0), () -> x.send(-1, 0), () -> x.send(MIN, 0),
                    () -> x.send(0, 2), () -> x.send(0, -1), () -> x.send(0, MAX));
            is("send", 1, x.send(0, 0));
            refused(x, () -> x.send(0, 0));
        });
        holds(17, "THE STORE has room for so many copies (0 to 20; 0 without)", () -> {
            CopyKeeper x = with("library 9;work 2 0;work 2 0;holds 0 0 3;store 20;");
            int sent = 0;
            for (int i = 0; i < 7; i++) {
                for (int k = 0; k < 3 && sent < 20; k++) is("send", ++sent, x.send(0, 0));
                x.own(0, 0, 3);
            }
            is("in THE STORE", 20, x.count(26));
            x.own(0, 1, 1);
            refused(x, () -> x.send(0, 0), () -> x.send(0, 1));
        });
    }

    private static void carrying() {
        holds(18, "THE PLAN is carried out: copies that go.", () -> {
            CopyKeeper x = with(TWO);
            same("THE PLAN", "10 02", plan(x));
            is("carry", 3, x.carry());
            is("HELD", 3, x.count(3));
            is("of the first", 2, x.held(0, 0, 0));
            is("PROMISED", 1, x.held(1, 0, 0));
            is("went", 3, x.count(4));
            is("again: WISH 1", 1, x.carry());
            is("again: SPARE is 1", 1, x.carry());
            is("none is SPARE", 0, x.carry());
            is("a PLAN of none is an ACT", 4, x.count(17));
            is("went", 5, x.count(4));
        });
        holds(18, "NONE (STATUS 1): there is none.", () -> {
            CopyKeeper x = with("library 0;work 3 1;holds 0 0 1;");
            refused(x, x::carry, x::carry);
            is("room", 0, x.room(0, 0, 1));
            is("a PLAN of none", 0, x.carry());
            is("of no LIBRARIES", 0, new CopyKeeper().carry());
        });
    }

    private static void years() {
        holds(19, "YEARS go by: YEAR.", () -> {
            CopyKeeper x = with(ONE);
            int year = 0;
            for (int many = 1; many <= 9; many++) {
                year += many;
                is("years " + many, year, x.years(many));
            }
            is("YEAR", 45, x.count(2));
        });
        holds(19, "NONE (STATUS 1): not 1 to 9, it would be above 60.", () -> {
            CopyKeeper x = with(ONE);
            refused(x, () -> x.years(0), () -> x.years(10), () -> x.years(-1), () -> x.years(MIN), () -> x.years(MAX));
            for (int year = 9; year <= 54; year += 9) is("years", year, x.years(9));
            refused(x, () -> x.years(7), () -> x.years(9), () -> x.years(MAX));
            is("59", 59, x.years(5));
            refused(x, () -> x.years(2));
            is("60", 60, x.years(1));
            refused(x, () -> x.years(1), () -> x.years(9), () -> x.years(0), () -> x.years(-9));
            is("undo", 7, x.undo());
            is("undo", 6, x.undo());
            is("60 at once", 60, x.years(6));
        });
    }

    private static void undoing() {
        holds(20, "The last ACT is UNDONE: how many are left. NONE: there is none.", () -> {
            CopyKeeper x = with(ONE);
            is("none", NONE, x.undo());
            is("it is no ACT that is refused", 0, x.count(21));
            is("years", 1, x.years(1));
            is("years", 3, x.years(2));
            is("left", 1, x.undo());
            is("YEAR", 1, x.count(2));
            is("left", 0, x.undo());
            is("YEAR", 0, x.count(2));
            is("none", NONE, x.undo());
            is("none", NONE, x.undo());
            is("STATUS 1", 0, x.count(21));
            refused(x, () -> x.years(0));
            is("what was refused is no ACT", NONE, x.undo());
        });
        holds(20, "They are UNDONE, the last one first.", () -> {
            CopyKeeper x = with(TWO);
            String[] before = new String[3];
            before[0] = brief(x);
            is("give", 2, x.give(0, 1, 0));
            before[1] = brief(x);
            is("years", 6, x.years(6));
            before[2] = brief(x);
            is("go, as the PROMISE doesn't count now", 2, x.go(1, 0));
            for (int left = 2; left >= 0; left--) {
                is("undo", left, x.undo());
                same("UNDONE", before[left], brief(x));
            }
        });
        kinds();
        holds(20, "ACTS (at most 40 are kept, the latest ones)", () -> {
            CopyKeeper x = with(ONE);
            for (int i = 1; i <= 39; i++) x.keep(0, i % 16);
            is("39", 39, x.count(17));
            x.keep(0, 8);
            is("40", 40, x.count(17));
            x.keep(0, 9);
            is("41: the first is no longer kept", 40, x.count(17));
            for (int left = 39; left >= 0; left--) is("left", left, x.undo());
            is("none", NONE, x.undo());
            is("behind the first", 1, x.work(0, 1));
            is("another ACT", 1, x.keep(0, 5));
            is("one is kept", 1, x.count(17));
            is("left", 0, x.undo());
            is("before it", 1, x.work(0, 1));
            CopyKeeper y = with(ONE);
            for (int i = 1; i <= 40; i++) y.keep(0, 1 + i % 15);
            for (int left = 39; left >= 0; left--) is("left", left, y.undo());
            is("of 40 all are UNDONE", 1, y.work(0, 1));
            is("none", NONE, y.undo());
        });
        holds(20, "(at most 40 are kept, the latest ones)", () -> {
            String[] row = briefs(60);
            for (int many = 38; many <= 60; many++) {
                CopyKeeper x = with(RING);
                for (int i = 0; i < many; i++) ringAct(x, i);
                undoAll(x, row, many, Math.min(40, many));
            }
            // some are UNDONE, and others told in their place
            CopyKeeper x = with(RING);
            for (int i = 0; i < 45; i++) ringAct(x, i);
            for (int left = 39; left >= 30; left--) is("left", left, x.undo());
            same("35 ACTS", row[35], brief(x));
            for (int i = 35; i < 40; i++) ringAct(x, i);
            undoAll(x, row, 40, 35);
        });
    }

    private static final String RING = "library 9 1;library 9;work 2 0;holds 0 0 3;store 20;";

    /** Nine ACTS of all kinds, behind which LIBRARIES HOLD what they held before. */
    private static void ringAct(CopyKeeper x, int step) {
        switch (step % 9) {
            case 0: is("carry", 1, x.carry()); break;
            case 1: is("give", 1, x.give(0, 1, 0)); break;
            case 2: is("promise", 0, x.promise(0, 0, 1, 60)); break;
            case 3: is("own", 1, x.own(0, 0, 3)); break;
            case 4: is("send", step / 9 + 1, x.send(1, 0)); break;
            case 5: is("none", 1, x.promise(0, 0, 0, 0)); break;
            case 6: is("years", step / 9 + 1, x.years(1)); break;
            case 7: is("go", step / 9 + 3, x.go(0, 0)); break;
            default: is("own", 2, x.own(0, 0, 3));
        }
    }

    /** What is told behind none of them, behind the first, and so on. */
    private static String[] briefs(int many) {
        CopyKeeper x = with(RING);
        String[] row = new String[many + 1];
        row[0] = brief(x);
        for (int i = 0; i < many; i++) {
            ringAct(x, i);
            row[i + 1] = brief(x);
        }
        return row;
    }

    private static void undoAll(CopyKeeper x, String[] row, int told, int kept) {
        is("ACTS", kept, x.count(17));
        for (int left = kept - 1; left >= 0; left--) {
            is("left", left, x.undo());
            same(told + " ACTS, UNDONE to " + left, row[told - kept + left], brief(x));
        }
        is("none", NONE, x.undo());
    }

    private static String brief(CopyKeeper x) {
        return x.count(2) + " " + x.count(4) + " " + x.count(26) + " " + x.held(0, 0, 0) + " " + x.held(1, 0, 0) + " " + x.held(0, 0, 2);
    }

    /** An ACT by itself: what it answers; it changes something, and UNDONE all is as before. */
    private static void kind(String name, int want, java.util.function.ToIntFunction<CopyKeeper> act) {
        CopyKeeper x = with(TWO);
        String before = picture(x);
        is(name, want, act.applyAsInt(x));
        is("one ACT", 1, x.count(17));
        is("something is otherwise", 0, before.equals(picture(x)) ? 1 : 0);
        undone(x, before, 0);
    }

    private static void kinds() {
        holds(20, "so many copies are told that a LIBRARY HOLDS", () -> {
            kind("own", 2, x -> x.own(1, 1, 3));
            kind("own", 3, x -> x.own(0, 0, 0));
        });
        holds(20, "a PROMISE is told (in place of another one), or none any more", () -> {
            kind("promise", 0, x -> x.promise(0, 0, 1, 0));
            kind("promise", 1, x -> x.promise(1, 0, 3, 60));
            kind("none", 1, x -> x.promise(1, 0, 0, -9));
        });
        holds(20, "KEEP, ROOM, WISH are told", () -> {
            kind("keep", 0, x -> x.keep(1, 15));
            kind("room", 2, x -> x.room(0, 0, 20));
            kind("wish", 1, x -> x.room(0, 1, 20));
            kind("keep, as it was: an ACT that is counted", 0, x -> x.keep(1, 0));
        });
        holds(20, "a copy GOES, if it MAY", () -> kind("go", 2, x -> x.go(0, 0)));
        holds(20, "a copy is GIVEN by a LIBRARY to another one", () -> kind("give", 2, x -> x.give(0, 1, 0)));
        holds(20, "a copy is SENT by a LIBRARY to THE STORE", () -> kind("send", 1, x -> x.send(0, 0)));
        holds(20, "THE PLAN is carried out", () -> kind("carry", 3, CopyKeeper::carry));
        holds(20, "YEARS go by (1 to 9; 60 at most)", () -> {
            kind("years", 1, x -> x.years(1));
            kind("years", 9, x -> x.years(9));
        });
    }
}
