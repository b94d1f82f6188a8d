import java.util.ArrayList;
import java.util.List;

/** Boundary cases of promises 5 to 10: what is asked, and the terms behind it. */
public final class BoundaryOfQuestions extends Sheet {
    /** Numbers that no 'what', LIBRARY or WORK can be. */
    private static final int[] FAR = {-1, -2, Integer.MIN_VALUE, Integer.MAX_VALUE, 1 << 16, 99};
    /** There is no PLAN: NEED 1, SPARE 0. */
    private static final String STUCK = "library 0;work 3 1;holds 0 0 1;";
    private static final String FULL = "library 0;".repeat(5) + "work 1 0;".repeat(6);

    public static void main(String[] args) {
        counts();
        full();
        stock();
        ways();
        plans();
        shortages();
        outlooks();
        inTheWay();
        changes();
        help();
        libraries();
        turns();
        works();
        pairs();
        lacks();
        orders();
        alone();
        end();
    }

    private static void counts() {
        holds(5, "NoSuchElementException: another what.", () -> {
            for (CopyKeeper x : new CopyKeeper[] {new CopyKeeper(), with(STUCK), with(FULL)}) {
                for (int what = 0; what <= 27; what++) x.count(what);
                noSuch("count(28)", () -> x.count(28));
                for (int far : FAR) noSuch("count(" + far + ")", () -> x.count(far));
            }
        });
        holds(5, "3 copies that all LIBRARIES HOLD", () -> {
            CopyKeeper x = with(FULL + Tape.pairs(5, 6, "holds", "3"));
            is("the most", 90, x.count(3));
            is("all go", 90, x.count(7));
            is("SPACE", 90, x.count(6));
            is("none", 0, with(FULL).count(3));
            is("those in THE STORE aren't", 0, with("store 9;").count(3));
        });
        holds(5, "4 copies that went ever", () -> {
            CopyKeeper x = with("library 1;library 9;work 1 0;holds 0 0 3;holds 1 0 3;store 1;");
            is("at first", 0, x.count(4));
            is("go", 5, x.go(0, 0));
            is("one", 1, x.count(4));
            is("send", 1, x.send(0, 0));
            is("own", 1, x.own(0, 0, 0));
            is("give", 1, x.give(1, 0, 0));
            is("none of these went", 1, x.count(4));
            is("carry", 3, x.carry());
            is("four", 4, x.count(4));
            is("carry", 0, x.carry());
            is("four", 4, x.count(4));
        });
        holds(5, "17 ACTS that are kept, 18 NOTED, 19 bytes of the tape, 20 to 22 STATUS 0 to 2", () -> {
            CopyKeeper x = new CopyKeeper();
            for (int what = 17; what <= 22; what++) is("count(" + what + ")", 0, x.count(what));
            is("FAULT", 1, read(x, "x"));
            for (int i = 0; i < 2; i++) is("no ACT", NONE, x.years(0));
            for (int i = 0; i < 3; i++) is("not NOTED", NONE, x.note(-2));
            is("ACT", 4, x.years(4));
            is("NOTED", 1, x.note(0));
            x.feed(0, 0, 0, 0, 0);
            is("ACTS", 1, x.count(17));
            is("NOTED", 1, x.count(18));
            is("bytes", 20, x.count(19));
            for (int i = 0; i < 3; i++) is("STATUS " + i, i + 1, x.count(20 + i));
        });
        holds(5, "25 room of THE STORE, 26 copies in it", () -> {
            CopyKeeper x = with("library 9;work 1 0;work 1 0;holds 0 0 1;holds 0 1 1;store 3;");
            is("room", 3, x.count(25));
            is("copies", 0, x.count(26));
            is("send", 1, x.send(0, 0));
            is("send", 1, x.send(0, 1));
            is("room stays", 3, x.count(25));
            is("copies of both", 2, x.count(26));
        });
    }

    private static void full() {
        holds(5, "LIBRARIES 0, 1 .. (at most 5)", () -> {
            // all that can be told of LIBRARIES and WORKS is told, and all of it PROMISED
            CopyKeeper x = with("library 18;".repeat(5) + "work 9 15;".repeat(6) + Tape.pairs(5, 6, "holds", "3") + "store 20;");
            for (int l = 0; l < 5; l++) for (int w = 0; w < 6; w++) is("promise", 0, x.promise(l, w, 3, 60));
            is("copies", 90, x.count(3));
            is("SPACE", 0, x.count(6));
            is("LAST", 0, x.count(15));
            is("SHORT", 0, x.count(16));
            is("LATE", 0, x.count(12));
            is("IN THE WAY: SPARE is 0 as well", 0, x.count(13));
            for (int l = 0; l < 5; l++) {
                is("copies of " + l, 18, x.library(l, 2));
                is("NEED", 0, x.library(l, 3));
                is("LOST", 63, x.library(l, 7));
                is("none left", 0, x.library(l, 8));
            }
            for (int w = 0; w < 6; w++) {
                is("copies of " + w, 15, x.work(w, 2));
                is("SPARE", 0, x.work(w, 3));
                is("SHORT", 0, x.work(w, 4));
                is("who HOLDS it", 31, x.work(w, 7));
                is("SAFE", 1, x.work(w, 9));
                is("keep", 15, x.keep(w, 1));
                is("SAFE", 5, x.work(w, 9));
            }
            is("IN THE WAY: each", 30, x.count(13));
            is("the first", 0, x.count(14));
            is("SPACE", 0, x.count(6));
            is("room", 18, x.room(4, 0, 0));
            is("no PLAN", 0, x.count(5));
            is("SHORTAGE", 18, x.count(9));
            is("of the last", 16, x.count(10));
            is("of none that it OFFERS", 0, x.count(11));
            is("LATE", 61, x.count(12));
            is("one alone isn't IN THE WAY", 0, x.count(13));
            is("HELP", NONE, x.count(23));
            for (int w = 0; w < 6; w++) is("none", 3, x.promise(4, w, 0, 0));
            is("a PLAN", 1, x.count(5));
            is("all of the last go", 18, x.count(7));
            is("SPACE", 162, x.count(6));
            is("carry", 18, x.carry());
            is("none in it", 0, x.library(4, 2));
            is("others as before", 18, x.library(3, 2));
        });
    }

    private static void stock() {
        holds(5, "LAST: WORKS of which there is just one copy.", () -> {
            CopyKeeper x = with("library 9;library 9;work 1 0;work 1 0;work 1 0;work 1 0;store 1;"
                    + "holds 0 1 1;holds 1 2 2;holds 0 3 1;holds 1 3 1;");
            is("none, one, two, one each", 2, x.count(15));
            is("sent", 1, x.send(0, 1));
            is("the one in THE STORE counts", 2, x.count(15));
            is("go", 1, x.go(1, 2));
            is("one is left", 6, x.count(15));
            is("go", 0, x.go(1, 2));
            is("none is left", 2, x.count(15));
            is("KEEP isn't looked at", 0, x.keep(1, 15));
            is("LAST", 2, x.count(15));
            is("own", 0, x.own(1, 0, 1));
            is("WORK 0 as well", 3, x.count(15));
        });
        holds(7, "SPARE of a WORK: its copies less KEEP (0, if that is more: then it is SHORT by the rest).", () -> {
            CopyKeeper x = with("library 9;work 1 2;holds 0 0 3;");
            int[][] due = {{0, 3, 0}, {2, 1, 0}, {3, 0, 0}, {4, 0, 1}, {15, 0, 12}};
            for (int[] d : due) {
                x.keep(0, d[0]);
                is("SPARE by KEEP " + d[0], d[1], x.work(0, 3));
                is("SHORT", d[2], x.work(0, 4));
                is("SHORT ones", d[2] > 0 ? 1 : 0, x.count(16));
            }
            CopyKeeper y = with("work 1 1;work 1 0;");
            is("SHORT, where nobody HOLDS any", 1, y.work(0, 4));
            is("of KEEP 0 it isn't", 0, y.work(1, 4));
            is("SHORT ones", 1, y.count(16));
        });
        holds(7, "those in THE STORE, where they stay for good", () -> {
            CopyKeeper x = with("library 0;work 1 1;holds 0 0 3;store 3;");
            for (int i = 1; i <= 3; i++) is("send", i, x.send(0, 0));
            is("copies", 3, x.work(0, 2));
            is("SPARE", 2, x.work(0, 3));
            is("by no PLAN they go", 0, x.carry());
            is("nor by one copy", NONE, x.go(0, 0));
            is("in THE STORE", 3, x.work(0, 8));
            is("who HOLDS any", 0, x.work(0, 7));
        });
        holds(6, "NEED of a LIBRARY: copies that it HOLDS less its ROOM (0, if that is more).", () -> {
            CopyKeeper x = with("library 0;work 1 0;work 1 0;holds 0 0 3;holds 0 1 2;");
            int[] need = {5, 4, 3, 2, 1, 0, 0};
            for (int room = 0; room <= 6; room++) {
                x.room(0, 0, room);
                is("NEED by ROOM " + room, need[room], x.library(0, 3));
            }
            x.room(0, 0, 20);
            is("NEED by ROOM 20", 0, x.library(0, 3));
        });
        holds(8, "A PROMISE counts as long as YEAR isn't beyond its own.", () -> {
            CopyKeeper x = with("library 9;work 1 0;holds 0 0 1;promise 0 0 1 0;");
            is("YEAR 0, until 0", 1, x.held(0, 0, 3));
            is("years", 1, x.years(1));
            is("YEAR 1, until 0", 0, x.held(0, 0, 3));
            is("it is there all the same", 1, x.held(0, 0, 1));
            is("its YEAR", 0, x.held(0, 0, 2));
            is("promise", 1, x.promise(0, 0, 1, 1));
            is("YEAR 1, until 1", 1, x.held(0, 0, 3));
            is("promise of the past", 1, x.promise(0, 0, 1, 0));
            is("YEAR 1, until 0", 0, x.held(0, 0, 3));
            is("promise", 1, x.promise(0, 0, 1, 60));
            for (int i = 10; i <= 55; i += 9) is("years", i, x.years(9));
            is("years", 60, x.years(5));
            is("YEAR 60, until 60", 1, x.held(0, 0, 3));
            is("promise", 1, x.promise(0, 0, 1, 59));
            is("YEAR 60, until 59", 0, x.held(0, 0, 3));
            is("none", 1, x.promise(0, 0, 0, 0));
            is("none doesn't count", 0, x.held(0, 0, 3));
        });
        holds(8, "copies that it HOLDS less what it has PROMISED, if that counts (0, if that is more)", () -> {
            CopyKeeper x = with("library 9;work 1 0;");
            for (int copies = 0; copies <= 3; copies++) {
                x.own(0, 0, copies);
                for (int much = 0; much <= 3; much++) {
                    x.promise(0, 0, much, 0);
                    is("OFFER of " + copies + " less " + much, Math.max(0, copies - much), x.held(0, 0, 4));
                }
            }
            is("years", 1, x.years(1));
            is("it doesn't count", 3, x.held(0, 0, 4));
        });
    }

    private static void ways() {
        holds(5, "of each no more than its OFFER", () -> {
            CopyKeeper x = with("library 9;work 1 0;holds 0 0 3;");
            for (int much = 1; much <= 3; much++) {
                x.promise(0, 0, much, 9);
                is("copies", 3 - much, x.count(7));
            }
        });
        holds(5, "of a WORK all together no more than its SPARE", () -> {
            CopyKeeper x = with("library 9;library 9;work 1 0;holds 0 0 2;holds 1 0 2;");
            for (int keep = 0; keep <= 5; keep++) {
                x.keep(0, keep);
                is("copies by KEEP " + keep, Math.max(0, 4 - keep), x.count(7));
            }
        });
        holds(5, "each LIBRARY all together its NEED at least, and its WISH, or its NEED, if that is more, at most", () -> {
            CopyKeeper x = with("library 9 0;library 9;work 1 0;work 1 0;holds 0 0 3;holds 0 1 2;holds 1 0 1;");
            is("WISH 0, NEED 0: none", 0, x.library(0, 4));
            x.room(0, 1, 2);
            is("WISH 2", 2, x.library(0, 4));
            x.room(0, 0, 3);
            is("NEED 2, as its WISH", 2, x.library(0, 4));
            x.room(0, 0, 2);
            is("NEED 3 is more", 3, x.library(0, 4));
            x.room(0, 1, 4);
            is("WISH 4 is more", 4, x.library(0, 4));
            x.room(0, 1, 5);
            is("WISH 5: all", 5, x.library(0, 4));
            x.room(0, 1, 6);
            is("WISH 6: all there are", 5, x.library(0, 4));
            x.keep(0, 3);
            x.keep(1, 1);
            is("NEED 3: SPARE of 1 and 1 is too little", 0, x.count(5));
            x.room(0, 0, 3);
            is("NEED 2 can be", 1, x.count(5));
            is("and so many go", 2, x.library(0, 4));
        });
        holds(5, "WISH (0 to 20: more than that it doesn't withdraw at once; 20 without)", () -> {
            CopyKeeper x = with("library 20 0;library 20 1;library 20;work 9 0;holds 0 0 3;holds 1 0 3;holds 2 0 3;");
            same("THE PLAN", "0 1 3", plan(x));
            is("carry", 4, x.carry());
            same("at once, not in all", "0 1 0", plan(x));
        });
        holds(5, "It may be that there is none.", () -> {
            CopyKeeper x = with(STUCK);
            is("whether", 0, x.count(5));
            for (int what : new int[] {6, 7, 8, 12, 24, 27}) is("count(" + what + ")", NONE, x.count(what));
            for (int what : new int[] {4, 5, 6, 12}) is("library(0, " + what + ")", NONE, x.library(0, what));
            for (int what : new int[] {5, 6, 10}) is("work(0, " + what + ")", NONE, x.work(0, what));
            is("held(0, 0, 5)", NONE, x.held(0, 0, 5));
            is("carry", NONE, x.carry());
            is("room", 0, x.room(0, 0, 1));
            is("whether", 1, x.count(5));
            is("SPACE 0 isn't none", 0, x.count(6));
            is("copies 0", 0, x.count(7));
            is("CHANGES 0", 0, x.count(8));
            is("held(0, 0, 5)", 0, x.held(0, 0, 5));
        });
    }

    private static void plans() {
        holds(5, "THE PLAN: of all WAYS one of most SPACE", () -> {
            CopyKeeper x = with("library 9 1;work 1 0;work 9 0;work 8 0;holds 0 0 3;holds 0 1 1;holds 0 2 3;");
            same("the greatest SIZE", "010", plan(x));
            x.room(0, 1, 2);
            same("and the next", "011", plan(x));
            // the first LIBRARY leaves to the second one what only that one can withdraw
            CopyKeeper y = with("library 9 1;library 9 1;work 5 1;work 4 0;holds 0 0 1;holds 0 1 1;holds 1 0 1;");
            same("SPACE 9", "01 10", plan(y));
            is("SPACE", 9, y.count(6));
        });
        holds(5, "of like ones the first (by LIBRARIES, of each by WORKS, that with more copies first)", () -> {
            CopyKeeper x = with("library 9;library 9;work 4 3;holds 0 0 2;holds 1 0 2;");
            same("one of two LIBRARIES", "1 0", plan(x));
            x.keep(0, 2);
            same("more copies first", "2 0", plan(x));
            x.keep(0, 1);
            same("the rest by the other", "2 1", plan(x));
            CopyKeeper y = with("library 9 2;work 4 0;work 4 0;work 4 0;holds 0 0 1;holds 0 1 3;holds 0 2 3;");
            same("by WORKS", "110", plan(y));
            y.own(0, 0, 3);
            same("more copies first", "200", plan(y));
            // what 0 leaves by its WISH, 1 takes
            CopyKeeper z = with("library 9 1;library 9 1;work 2 1;work 2 1;holds 0 0 1;holds 0 1 1;holds 1 0 1;holds 1 1 1;");
            same("0 the first WORK, 1 the other", "10 01", plan(z));
            is("no WISH", 1, z.room(1, 1, 0));
            same("1 withdraws none", "10 00", plan(z));
            z.room(1, 0, 1);
            same("1 must", "10 01", plan(z));
        });
        holds(5, "of like ones one of fewest copies", () -> {
            // 9 copies of SIZE 1 would be as much, but more than the one of SIZE 9 can't go: WISH is 1
            CopyKeeper x = with("library 9 1;library 9 3;work 9 1;work 3 0;holds 0 0 1;holds 1 0 1;holds 1 1 3;");
            is("SPACE", 18, x.count(6));
            is("copies", 4, x.count(7));
            same("THE PLAN", "10 03", plan(x));
        });
    }

    private static void shortages() {
        holds(5, "SHORTAGE: the greatest LACK of any set (0: of none)", () -> {
            CopyKeeper x = with("library 1;library 1;work 1 0;holds 0 0 1;holds 1 0 1;");
            is("no NEED", 0, x.count(9));
            is("of none", 0, x.count(10));
            is("no WORKS", 0, x.count(11));
            is("LACK of both is below 0", -2, x.lack(3));
            x.room(0, 0, 0);
            x.keep(0, 1);
            is("NEED 1, SPARE 1", 0, x.lack(1));
            is("none lacks", 0, x.count(9));
            is("a set that lacks 0 isn't it", 0, x.count(10));
            is("nor are its WORKS", 0, x.count(11));
            x.keep(0, 2);
            is("NEED 1, SPARE 0", 1, x.count(9));
            is("LIBRARY 0", 1, x.count(10));
            is("WORK 0", 1, x.count(11));
            is("no LIBRARIES", 0, with("work 1 15;").count(9));
        });
        holds(5, "its LIBRARIES are those of that set (of like ones the one with fewest, then the least as bits)", () -> {
            // LIBRARY 2 alone lacks 1; so do 0 and 1 together, and each with LIBRARIES that lack 0
            CopyKeeper x = with("library 0;library 0;library 0;work 1 1;work 1 1;holds 0 0 1;holds 1 0 1;holds 2 1 1;");
            is("0 and 1", 1, x.lack(3));
            is("2", 1, x.lack(4));
            is("all", 2, x.count(9));
            is("all", 7, x.count(10));
            x.keep(1, 0);
            is("2 lacks no more", 1, x.count(9));
            is("0 and 1, without 2", 3, x.count(10));
            x.keep(0, 0);
            is("none", 0, x.count(10));
            x.room(2, 0, 1);
            x.keep(0, 1);
            is("fewest: not with 2, whose LACK is none", 3, x.count(10));
            // two sets of one: the least as bits
            CopyKeeper y = with("library 1;library 0;library 0;work 1 2;holds 1 0 1;holds 2 0 1;");
            is("both lack 2 together", 2, y.count(9));
            is("they", 6, y.count(10));
            CopyKeeper z = with("library 9;library 0;library 0;work 1 1;work 1 0;holds 1 0 1;holds 2 0 1;holds 2 1 1;promise 2 1 1 0;");
            is("2 lacks 1, both lack 2", 2, z.count(9));
            is("both", 6, z.count(10));
            // 1 lacks 1 alone; 2 has what it needs, so both lack 1 together, too
            CopyKeeper w = with("library 9;library 1;library 1;work 1 0;work 1 3;work 1 0;holds 1 1 2;holds 2 1 1;holds 2 2 1;");
            is("LACK of 1", 1, w.lack(2));
            is("LACK of 2", 0, w.lack(4));
            is("both", 1, w.lack(6));
            is("fewest", 2, w.count(10));
        });
        holds(5, "then the least as bits", () -> {
            // Of sets of the same greatest LACK one lies within all others: it has the fewest, and is the least as bits.
            CopyKeeper x = with("library 2;library 2;library 2;work 1 3;work 1 3;work 1 3;"
                    + "holds 0 0 2;holds 0 1 2;holds 1 1 2;holds 1 2 2;holds 2 2 2;holds 2 0 2;");
            for (int one = 1; one <= 4; one *= 2) is("NEED 2, SPARE 1 and 1", 0, x.lack(one));
            for (int two : new int[] {3, 5, 6}) is("NEED 4, SPARE 1, 1 and 1", 1, x.lack(two));
            is("NEED 6", 3, x.lack(7));
            is("all", 7, x.count(10));
            x.room(2, 0, 4);
            is("0 and 1: NEED 4", 1, x.lack(3));
            is("0 and 2: NEED 2", -1, x.lack(5));
            is("all: NEED 4, SPARE 3, too", 1, x.lack(7));
            is("without 2, which adds nothing", 3, x.count(10));
            x.undo();
            x.room(0, 0, 4);
            is("without 0", 6, x.count(10));
            // each of two lacks 1: both lack 2
            CopyKeeper y = with("library 0;library 0;work 1 1;work 1 1;work 1 0;holds 0 0 1;holds 1 1 1;holds 1 2 1;");
            is("0", 1, y.lack(1));
            is("1", 1, y.lack(2));
            is("both", 3, y.count(10));
        });
        holds(5, "its WORKS those of which that set's OFFERS together are more than SPARE", () -> {
            CopyKeeper x = with("library 0;library 9;work 1 2;work 1 1;work 1 0;holds 0 0 2;holds 0 1 2;holds 0 2 2;holds 1 1 2;"
                    + "promise 0 2 2 0;");
            is("OFFERS 2 2 0, SPARE 0 3 2", 1, x.count(11));
            is("NEED 6 less 2", 4, x.count(9));
            x.keep(1, 2);
            is("OFFERS 2 of SPARE 2 aren't more", 1, x.count(11));
            x.keep(1, 3);
            is("OFFERS 2 of SPARE 1 are", 3, x.count(11));
            is("only that set's OFFERS", 1, x.count(10));
        });
        holds(5, "(There is a PLAN just if SHORTAGE is 0.)", () -> {
            CopyKeeper x = with("library 1 0;library 1 0;work 1 1;work 2 1;holds 0 0 1;holds 0 1 1;holds 1 0 1;holds 1 1 1;");
            is("SHORTAGE", 0, x.count(9));
            is("PLAN", 1, x.count(5));
            for (int work = 0; work < 2; work++) {
                is("keep", 1, x.keep(work, 2));
                is("SHORTAGE", 1, x.count(9));
                is("PLAN", 0, x.count(5));
                is("undo", 0, x.undo());
            }
            is("room", 1, x.room(0, 0, 0));
            is("SHORTAGE of both", 1, x.count(9));
            is("both", 3, x.count(10));
            is("PLAN", 0, x.count(5));
        });
    }

    private static void outlooks() {
        holds(5, "LATE: the first YEAR, from now on to 61, at which there is a PLAN (all else as it is); none.", () -> {
            CopyKeeper x = with("library 0;work 1 0;work 1 0;holds 0 0 1;holds 0 1 1;");
            is("now", 0, x.count(12));
            x.promise(0, 0, 1, 0);
            is("behind 0", 1, x.count(12));
            x.promise(0, 1, 1, 7);
            is("behind 7", 8, x.count(12));
            x.promise(0, 0, 1, 60);
            is("behind 60", 61, x.count(12));
            x.promise(0, 0, 1, 59);
            is("behind 59", 60, x.count(12));
            x.promise(0, 0, 1, 60);
            for (int year = 9; year <= 54; year += 9) is("years", year, x.years(9));
            is("years", 60, x.years(6));
            is("from 60 on", 61, x.count(12));
            x.promise(0, 0, 0, 0);
            is("now is 60", 60, x.count(12));
            x.keep(1, 1);
            is("none", NONE, x.count(12));
            x.own(0, 1, 0);
            is("now", 60, x.count(12));
        });
        holds(7, "STRICTER for a WORK: how much more KEEP (0 to 15) might be so that there is a PLAN still", () -> {
            CopyKeeper x = with("library 2;library 9;work 1 0;work 1 0;holds 0 0 3;holds 1 0 3;");
            is("SPARE 6, NEED 1", 5, x.work(0, 6));
            x.keep(0, 5);
            is("SPARE 1, NEED 1", 0, x.work(0, 6));
            x.keep(0, 4);
            is("SPARE 2", 1, x.work(0, 6));
            is("the other one", 15, x.work(1, 6));
            x.keep(1, 15);
            is("more than KEEP 15", 15, x.work(1, 6));
            x.keep(0, 6);
            is("without a PLAN", NONE, x.work(0, 6));
            is("of the other one", NONE, x.work(1, 6));
        });
        holds(7, "how much more KEEP (0 to 15)", () -> {
            // 18 copies, of which 2, then 3 must go: 16 or 15 might be kept
            CopyKeeper x = with("library 1;" + "library 9;".repeat(4) + "work 1 0;" + Tape.pairs(5, 1, "holds", "3") + "store 3;");
            for (int i = 1; i <= 3; i++) is("send", i, x.send(1, 0));
            is("own", 0, x.own(1, 0, 3));
            is("copies", 18, x.work(0, 2));
            is("NEED 2: 16 might be, 15 is the most", 15, x.work(0, 6));
            x.room(0, 0, 0);
            is("NEED 3: 15", 15, x.work(0, 6));
            x.own(1, 0, 2);
            is("of 17", 14, x.work(0, 6));
        });
        holds(6, "TIGHTER for a LIBRARY: how much less ROOM (0 to all) likewise", () -> {
            CopyKeeper x = with("library 5;library 3;work 1 1;holds 0 0 3;holds 1 0 1;");
            is("3 may go, 2 of ROOM 5 are free: all", 5, x.library(0, 6));
            x.keep(0, 2);
            is("2 may go: 4 less", 4, x.library(0, 6));
            x.keep(0, 4);
            is("none may go: 2 less", 2, x.library(0, 6));
            is("none may go: 2 of 3 less", 2, x.library(1, 6));
            x.room(0, 0, 3);
            is("ROOM 3, none may go", 0, x.library(0, 6));
            x.own(0, 0, 0);
            is("it HOLDS none: all", 3, x.library(0, 6));
            x.room(0, 0, 0);
            is("ROOM 0", 0, x.library(0, 6));
            x.room(1, 0, 0);
            is("without a PLAN", NONE, x.library(0, 6));
            is("ROOM 20, none held", 20, with("library 20;").library(0, 6));
        });
    }

    private static void inTheWay() {
        holds(5, "IN THE WAY: PROMISES that count, without which alone SPACE of THE PLAN would be more", () -> {
            CopyKeeper x = with("library 9;library 9;work 2 1;work 3 0;holds 0 0 1;holds 1 0 1;holds 1 1 2;"
                    + "promise 0 0 1 4;promise 1 1 1 5;promise 1 0 3 5;");
            is("SPACE", 3, x.count(6));
            is("three", 3, x.count(13));
            is("first", 0, x.count(14));
            is("one more of WORK 0 may go by either", 1, x.promise(0, 0, 0, 0));
            is("SPACE", 5, x.count(6));
            is("SPARE is gone: not that of WORK 0", 1, x.count(13));
            is("first", 11, x.count(14));
            is("years", 5, x.years(5));
            is("in its last YEAR", 1, x.count(13));
            is("years", 6, x.years(1));
            is("none counts", 0, x.count(13));
            is("first", NONE, x.count(14));
        });
        holds(5, "or there would be one where there is none", () -> {
            CopyKeeper x = with("library 0;work 1 0;work 1 0;holds 0 0 1;holds 0 1 1;promise 0 0 1 9;promise 0 1 1 9;");
            is("without either alone there is none still", 0, x.count(13));
            is("first", NONE, x.count(14));
            is("room", 0, x.room(0, 0, 1));
            is("without either alone there is one", 2, x.count(13));
            is("first", 0, x.count(14));
            is("one", 1, x.promise(0, 0, 0, 0));
            is("SPACE would be more", 1, x.count(13));
            is("first", 1, x.count(14));
            CopyKeeper y = with("library 0;library 0;work 1 2;holds 0 0 1;holds 1 0 1;promise 0 0 1 1;");
            is("SPARE is in the way, not the PROMISE", 0, y.count(13));
        });
        holds(5, "14 the first of these (10 times the LIBRARY, and the WORK; NONE)", () -> {
            CopyKeeper x = with(FULL + "holds 4 5 1;promise 4 5 1 0;");
            is("the last of all", 45, x.count(14));
            is("promise", 0, x.promise(3, 5, 1, 0));
            is("of what isn't held", 45, x.count(14));
            is("own", 0, x.own(3, 5, 1));
            is("both must go: without either alone there is no PLAN", NONE, x.count(14));
            is("room", 0, x.room(4, 0, 1));
            is("NEED of 3 alone", 35, x.count(14));
            is("room", 0, x.room(3, 0, 1));
            is("both win", 2, x.count(13));
            is("new", NONE, new CopyKeeper().count(14));
        });
    }

    private static void changes() {
        holds(5, "a withdraws one of i less and one of j more, b one of j less and one of i more, each of no WORK fewer than 0, "
                + "or more than its OFFER: how many", () -> {
            CopyKeeper x = with("library 9 1;library 9 1;work 1 1;work 1 1;holds 0 0 1;holds 0 1 1;holds 1 0 1;holds 1 1 1;");
            same("THE PLAN", "10 01", plan(x));
            is("one", 1, x.count(8));
            x.promise(0, 1, 1, 0);
            is("a has no more of j", 0, x.count(8));
            x.promise(0, 1, 0, 0);
            x.promise(1, 0, 1, 0);
            is("b has no more of i", 0, x.count(8));
            x.promise(1, 0, 0, 0);
            x.room(1, 1, 0);
            same("THE PLAN", "10 00", plan(x));
            is("b would withdraw fewer than 0 of j", 0, x.count(8));
            x.undo();
            x.room(0, 1, 0);
            same("THE PLAN", "00 10", plan(x));
            is("a would withdraw fewer than 0", 0, x.count(8));
            is("one LIBRARY", 0, with("library 9 1;work 1 0;work 1 0;holds 0 0 1;holds 0 1 1;").count(8));
        });
        holds(5, "LIBRARIES a, b (a the lesser), WORKS i, j (unlike, either order)", () -> {
            // 0 withdraws WORKS 0 and 1, 1 withdraws 2 and 3, of all of which both have one
            CopyKeeper x = with("library 9 2;library 9 2;library 9 0;" + "work 1 1;".repeat(4) + Tape.pairs(2, 4, "holds", "1"));
            same("THE PLAN", "1100 0011 0000", plan(x));
            is("2 times 2", 4, x.count(8));
            x.promise(1, 1, 1, 0);
            is("1 times 2", 2, x.count(8));
            x.room(2, 1, 9);
            is("a third one that has nothing", 2, x.count(8));
            // both withdraw one of two of WORK 0: i and j must be unlike
            CopyKeeper y = with("library 9 2;library 9 1;work 1 2;work 9 0;holds 0 0 2;holds 0 1 1;holds 1 0 2;");
            same("THE PLAN", "11 10", plan(y));
            is("none", 0, y.count(8));
            is("own", 0, y.own(1, 1, 1));
            is("wish", 1, y.room(1, 1, 2));
            same("THE PLAN", "11 11", plan(y));
            is("none, as each withdraws all of WORK 1", 0, y.count(8));
        });
    }

    private static void help() {
        holds(5, "HELP: the fewest copies (0 to 2) that would have to be GIVEN, one after the other, each as an ACT could, "
                + "so that there is a PLAN; none.", () -> {
            CopyKeeper x = with("library 3;library 3;work 1 6;holds 0 0 3;");
            is("none is needed", 0, x.count(23));
            x.room(0, 0, 2);
            is("one", 1, x.count(23));
            x.room(0, 0, 1);
            is("two", 2, x.count(23));
            x.room(0, 0, 0);
            is("three are too many", NONE, x.count(23));
            x.room(0, 0, 1);
            x.room(1, 0, 1);
            is("room for one", NONE, x.count(23));
            x.room(1, 0, 2);
            is("room for both", 2, x.count(23));
            x.own(1, 0, 1);
            is("one is there: room for one", NONE, x.count(23));
            x.room(1, 0, 3);
            is("room for both", 2, x.count(23));
            x.own(1, 0, 2);
            x.room(1, 0, 9);
            is("3 of it are the most", NONE, x.count(23));
            x.own(1, 0, 0);
            x.promise(0, 0, 2, 0);
            is("OFFER of one", NONE, x.count(23));
            x.promise(0, 0, 1, 0);
            is("OFFER of both", 2, x.count(23));
        });
        holds(5, "Its FIRST: the first one of these (100 times the LIBRARY by which, 10 times the one to which, and the WORK, "
                + "the least); none with 0.", () -> {
            CopyKeeper x = with("library 2;library 0;library 2;library 2;work 1 9;work 1 9;holds 2 0 1;holds 2 1 2;");
            is("one too many in 2", 1, x.count(23));
            is("to 0 the first WORK", 200, x.count(24));
            x.promise(2, 0, 1, 0);
            is("the other WORK", 201, x.count(24));
            x.room(0, 0, 0);
            is("to 3", 231, x.count(24));
            x.room(2, 0, 3);
            is("with 0", NONE, x.count(24));
            is("0", 0, x.count(23));
            x.room(3, 0, 0);
            x.room(2, 0, 2);
            is("to none", NONE, x.count(24));
            is("none", NONE, x.count(23));
            CopyKeeper y = with("library 0;library 1;library 0;library 1;work 1 9;holds 0 0 1;holds 2 0 1;");
            is("one each", 2, y.count(23));
            is("the first one of two", 10, y.count(24));
            is("give", 1, y.give(0, 1, 0));
            is("then the other", 230, y.count(24));
            is("one", 1, y.count(23));
            // 2 must be rid of two of WORK 1; what 1 could GIVE is no help
            CopyKeeper z = with("library 9;library 9;library 1;work 1 9;work 1 15;holds 1 1 1;holds 2 0 1;holds 2 1 2;promise 2 0 1 0;");
            is("two", 2, z.count(23));
            is("by 2 to 0, WORK 1", 201, z.count(24));
            is("room", 9, z.room(0, 0, 1));
            is("the second one goes to 1", 201, z.count(24));
            is("room", 1, z.room(0, 0, 0));
            is("both go to 1", 211, z.count(24));
            is("room", 9, z.room(1, 0, 2));
            is("only one can", NONE, z.count(24));
        });
        holds(5, "each as an ACT could", () -> {
            // 0 must be rid of one: WORK 0 is PROMISED, of WORK 1 none may go
            CopyKeeper x = with("library 1;library 2;library 2;work 1 0;work 1 2;holds 0 0 1;holds 0 1 1;holds 1 1 1;promise 0 0 1 0;");
            is("SHORTAGE", 1, x.count(9));
            is("the PROMISED one can't be GIVEN, the other one can", 1, x.count(23));
            is("it", 11, x.count(24));
            x.own(1, 0, 1);
            is("1 is full", 21, x.count(24));
            x.room(2, 0, 0);
            is("2 too", NONE, x.count(24));
            // who GIVES the one copy that it could withdraw lacks as much as before
            CopyKeeper y = with("library 0;library 9;work 1 0;work 1 1;holds 0 0 1;holds 0 1 1;holds 1 1 1;promise 0 0 1 0;");
            is("SHORTAGE", 1, y.count(9));
            is("no help", NONE, y.count(23));
            is("give", 2, y.give(0, 1, 1));
            is("SHORTAGE", 1, y.count(9));
            // 1 makes room first, by what only 0 can get
            CopyKeeper z = with("library 9;library 2;library 2;work 1 15;work 1 15;work 1 15;holds 0 1 3;holds 1 0 1;holds 1 2 1;holds 2 1 3;");
            is("SHORTAGE", 1, z.count(9));
            is("two", 2, z.count(23));
            is("by 1 to 0, WORK 0", 100, z.count(24));
            is("room", 2, z.room(2, 0, 1));
            is("four would be needed", NONE, z.count(23));
            is("none", NONE, z.count(24));
        });
    }

    private static void libraries() {
        holds(6, "NoSuchElementException: no such LIBRARY (as everywhere), another what.", () -> {
            CopyKeeper x = with(FULL);
            for (int l = 0; l < 5; l++) for (int what = 0; what <= 12; what++) x.library(l, what);
            noSuch("library(5, 0)", () -> x.library(5, 0));
            noSuch("library(0, 13)", () -> x.library(0, 13));
            noSuch("library(5, 13)", () -> x.library(5, 13));
            for (int far : FAR) {
                noSuch("library(" + far + ", 0)", () -> x.library(far, 0));
                noSuch("library(0, " + far + ")", () -> x.library(0, far));
            }
            CopyKeeper y = with("library 1;library 1;");
            noSuch("the first that isn't", () -> y.library(2, 0));
            is("the last", 1, y.library(1, 0));
        });
        holds(6, "LOST with a LIBRARY: were it gone with all that it HOLDS: WORKS of which there were fewer copies than KEEP; "
                + "WORKS of which there were none, though there are now.", () -> {
            CopyKeeper x = with("library 9;library 9;work 1 1;work 1 2;work 1 1;work 1 0;holds 0 0 2;holds 1 0 1;"
                    + "holds 0 1 2;holds 1 1 1;holds 0 2 1;store 2;");
            is("1 of KEEP 1 is left of WORK 0, 1 of KEEP 2, none of KEEP 1; none of 0 isn't fewer", 6, x.library(0, 7));
            is("WORK 2 is gone, of WORK 3 there is none now", 4, x.library(0, 8));
            is("2 of 1, 2 of 2, 1 of 1 are left without 1", 0, x.library(1, 7));
            is("none is gone", 0, x.library(1, 8));
            is("send", 1, x.send(0, 2));
            is("what is in THE STORE is left", 2, x.library(0, 7));
            is("none is gone", 0, x.library(0, 8));
            is("keep", 1, x.keep(2, 2));
            is("SHORT without it, too", 6, x.library(0, 7));
            is("SHORT with any", 4, x.library(1, 7));
            is("own", 1, x.own(1, 0, 0));
            is("all of WORK 0 are in 0", 7, x.library(0, 7));
            is("none is left then", 1, x.library(0, 8));
            is("send", 1, x.send(0, 0));
            is("one is left, as KEEP is", 6, x.library(0, 7));
            is("one is left", 0, x.library(0, 8));
        });
        holds(6, "APART from a LIBRARY: SPACE of THE PLAN if it had no OFFER of anything, and no NEED; none.", () -> {
            CopyKeeper x = with("library 0;library 9 1;work 2 1;holds 0 0 1;holds 1 0 1;");
            is("THE PLAN", 2, x.count(6));
            is("APART from 0: 1 withdraws instead", 2, x.library(0, 11));
            is("APART from 1", 2, x.library(1, 11));
            x.keep(0, 2);
            is("no PLAN", NONE, x.count(6));
            is("APART from 0 there is one, of nothing", 0, x.library(0, 11));
            is("APART from 1 there is none", NONE, x.library(1, 11));
            x.keep(0, 1);
            x.own(0, 0, 2);
            is("NEED 2, SPARE 2", 4, x.count(6));
            x.keep(0, 2);
            is("NEED 2, SPARE 1", NONE, x.library(1, 11));
            is("its copies stay in SPARE", 2, x.library(0, 11));
            is("of the only one", 0, with(STUCK).library(0, 11));
        });
        holds(6, "of a LIBRARY: were its WISH one more (20 at most); none without a PLAN", () -> {
            CopyKeeper x = with("library 20 0;work 3 0;work 2 0;holds 0 0 2;holds 0 1 1;");
            int[] price = {3, 3, 2, 0, 0};
            for (int wish = 0; wish < 5; wish++) {
                x.room(0, 1, wish);
                is("PRICE by WISH " + wish, price[wish], x.library(0, 12));
            }
            x.room(0, 1, 19);
            is("by WISH 19", 0, x.library(0, 12));
            x.room(0, 1, 20);
            is("by WISH 20", 0, x.library(0, 12));
            x.room(0, 1, 0);
            x.room(0, 0, 1);
            is("NEED 2 is more than WISH and one", 0, x.library(0, 12));
            x.room(0, 1, 1);
            is("as much", 0, x.library(0, 12));
            x.room(0, 1, 2);
            is("WISH and one is more", 2, x.library(0, 12));
            x.keep(0, 9);
            x.room(0, 0, 0);
            is("without a PLAN", NONE, x.library(0, 12));
        });
        holds(6, "4 copies that it withdraws by THE PLAN (NONE), 5 WON (NONE)", () -> {
            CopyKeeper x = with("library 1;library 9;work 3 1;work 4 0;holds 0 0 2;holds 1 0 1;holds 1 1 3;");
            is("copies of 0", 2, x.library(0, 4));
            is("WON by 0", 6, x.library(0, 5));
            is("copies of 1", 3, x.library(1, 4));
            is("WON by 1", 12, x.library(1, 5));
            x.keep(0, 3);
            is("copies", NONE, x.library(1, 4));
            is("WON", NONE, x.library(1, 5));
        });
    }

    private static void turns() {
        holds(6, "BY TURNS from a LIBRARY on, round about by numbers", () -> {
            // one copy may go; 0 and 1 need it, 2 takes none
            CopyKeeper x = with("library 0 0;library 0 0;library 9 0;work 5 2;holds 0 0 1;holds 1 0 1;holds 2 0 1;");
            is("0 1 2: 1 lacks", 2, x.library(0, 10));
            is("1 2 0: 0 lacks", 1, x.library(1, 10));
            is("2 0 1: 1 lacks", 2, x.library(2, 10));
            for (int l = 0; l < 3; l++) is("SPACE", 5, x.library(l, 9));
            x.keep(0, 3);
            is("none goes: both lack", 3, x.library(2, 10));
            is("SPACE", 0, x.library(2, 9));
            x.keep(0, 1);
            is("two go: none lacks", 0, x.library(2, 10));
            is("SPACE", 10, x.library(2, 9));
        });
        holds(6, "copy by copy, what MAY GO, always of the WORK of greatest SIZE (of like ones the first)", () -> {
            // 1 needs the one copy of WORK 0 that may go; 0 takes one copy
            CopyKeeper x = with("library 9 1;library 0 0;work 4 1;work 4 0;work 5 0;holds 0 0 1;holds 0 1 1;holds 1 0 1;");
            is("of SIZE 4 the first, WORK 0", 4, x.library(0, 9));
            is("1 lacks", 2, x.library(0, 10));
            is("from 1 on: 0 takes WORK 1", 8, x.library(1, 9));
            is("none lacks", 0, x.library(1, 10));
            x.own(0, 2, 1);
            is("of SIZE 5 WORK 2; 1 takes WORK 0", 9, x.library(0, 9));
            is("none lacks", 0, x.library(0, 10));
            x.promise(0, 2, 1, 0);
            is("WORK 2 MAY not go", 4, x.library(0, 9));
            is("1 lacks", 2, x.library(0, 10));
            x.promise(0, 0, 1, 0);
            is("WORK 0 neither: WORK 1", 8, x.library(0, 9));
            is("none lacks", 0, x.library(0, 10));
            x.promise(0, 0, 0, 0);
            x.room(0, 1, 2);
            is("one of WORK 0, one of WORK 1", 8, x.library(0, 9));
            is("1 lacks", 2, x.library(0, 10));
            x.keep(0, 2);
            is("none of WORK 0 MAY go", 4, x.library(0, 9));
        });
        holds(6, "as many as its NEED or its WISH, if that is more (as it is now)", () -> {
            CopyKeeper x = with("library 1 0;work 1 0;holds 0 0 3;");
            is("NEED 2, not fewer as it goes on", 2, x.library(0, 9));
            x.room(0, 1, 1);
            is("WISH 1", 2, x.library(0, 9));
            x.room(0, 1, 2);
            is("WISH 2", 2, x.library(0, 9));
            x.room(0, 1, 3);
            is("WISH 3", 3, x.library(0, 9));
            x.room(0, 0, 9);
            x.room(0, 1, 0);
            is("neither", 0, x.library(0, 9));
        });
        holds(6, "LIBRARIES that withdrew fewer than their NEED", () -> {
            CopyKeeper x = with("library 1 20;work 1 1;holds 0 0 3;");
            is("NEED 2, as many", 0, x.library(0, 10));
            x.keep(0, 2);
            is("NEED 2, one fewer", 1, x.library(0, 10));
            x.room(0, 0, 2);
            is("NEED 1, fewer than its WISH only", 0, x.library(0, 10));
            x.keep(0, 3);
            is("NEED 1, none", 1, x.library(0, 10));
            x.room(0, 0, 3);
            is("NEED 0, none", 0, x.library(0, 10));
        });
    }

    private static void works() {
        holds(7, "NoSuchElementException: no such WORK (as everywhere), another what.", () -> {
            CopyKeeper x = with(FULL);
            for (int w = 0; w < 6; w++) for (int what = 0; what <= 10; what++) x.work(w, what);
            noSuch("work(6, 0)", () -> x.work(6, 0));
            noSuch("work(0, 11)", () -> x.work(0, 11));
            for (int far : FAR) {
                noSuch("work(" + far + ", 0)", () -> x.work(far, 0));
                noSuch("work(0, " + far + ")", () -> x.work(0, far));
            }
            CopyKeeper y = with("work 1 0;work 2 0;");
            noSuch("the first that isn't", () -> y.work(2, 0));
            is("the last", 2, y.work(1, 0));
        });
        holds(7, "PRICE of a WORK: by how much SPACE of THE PLAN would be more, were its KEEP one less", () -> {
            CopyKeeper x = with("library 9;work 7 3;holds 0 0 3;");
            int[] price = {NONE, 7, 7, 7, 0, 0};
            for (int keep = 0; keep < 6; keep++) {
                x.keep(0, keep);
                is("PRICE by KEEP " + keep, price[keep], x.work(0, 10));
            }
            x.keep(0, 1);
            x.room(0, 1, 2);
            is("WISH is in the way", 0, x.work(0, 10));
        });
        holds(7, "10 PRICE (NONE; also of KEEP 0)", () -> {
            CopyKeeper x = with("library 3;work 7 1;work 5 0;holds 0 0 2;holds 0 1 2;promise 0 1 2 0;");
            is("a copy more goes", 7, x.work(0, 10));
            is("KEEP 0", NONE, x.work(1, 10));
            x.keep(0, 0);
            is("KEEP 0", NONE, x.work(0, 10));
            x.keep(0, 1);
            x.own(0, 1, 3);
            is("one of it must go, and one of the other", 7, x.work(0, 10));
            x.keep(1, 3);
            is("no PLAN, though there were one by KEEP one less", NONE, x.work(1, 10));
        });
        holds(7, "SAFE: the fewest LIBRARIES without which a WORK would have fewer copies than KEEP (0: it has so now); none: never.", () -> {
            CopyKeeper x = with("library 9;library 9;library 9;work 1 0;holds 0 0 1;holds 1 0 3;holds 2 0 2;store 1;");
            int[] safe = {NONE, 3, 2, 2, 1, 1, 1, 0};
            for (int keep = 0; keep <= 7; keep++) {
                x.keep(0, keep);
                is("SAFE by KEEP " + keep, safe[keep], x.work(0, 9));
            }
            is("send", 1, x.send(0, 0));
            x.keep(0, 1);
            is("one is in THE STORE: never", NONE, x.work(0, 9));
            x.keep(0, 2);
            is("two LIBRARIES HOLD the rest", 2, x.work(0, 9));
            CopyKeeper y = with("work 1 1;work 1 0;");
            is("no LIBRARIES, SHORT", 0, y.work(0, 9));
            is("no LIBRARIES, KEEP 0", NONE, y.work(1, 9));
        });
        holds(7, "7 LIBRARIES that HOLD any (bits), 8 copies in THE STORE", () -> {
            CopyKeeper x = with(FULL + "holds 0 0 1;holds 4 0 3;holds 2 1 1;store 1;");
            is("0 and 4", 17, x.work(0, 7));
            is("none", 0, x.work(5, 7));
            is("send", 1, x.send(2, 1));
            is("not any more", 0, x.work(1, 7));
            is("in THE STORE", 1, x.work(1, 8));
        });
    }

    private static void pairs() {
        holds(8, "NoSuchElementException: also another what.", () -> {
            CopyKeeper x = with(FULL);
            for (int what = 0; what <= 6; what++) x.held(4, 5, what);
            noSuch("held(5, 0, 0)", () -> x.held(5, 0, 0));
            noSuch("held(0, 6, 0)", () -> x.held(0, 6, 0));
            noSuch("held(0, 0, 7)", () -> x.held(0, 0, 7));
            for (int far : FAR) {
                noSuch("held(" + far + ", 0, 0)", () -> x.held(far, 0, 0));
                noSuch("held(0, " + far + ", 0)", () -> x.held(0, far, 0));
                noSuch("held(0, 0, " + far + ")", () -> x.held(0, 0, far));
            }
            CopyKeeper y = with("library 1;library 1;work 1 1;");
            noSuch("a WORK that isn't, in a LIBRARY that is", () -> y.held(0, 1, 0));
            noSuch("a LIBRARY that isn't, of a WORK that is", () -> y.held(2, 0, 0));
            is("the last", 0, y.held(1, 0, 0));
        });
        holds(8, "1 MUCH of a PROMISE (0: none), 2 its YEAR (NONE)", () -> {
            CopyKeeper x = with("library 1;work 1 1;");
            is("MUCH", 0, x.held(0, 0, 1));
            is("YEAR", NONE, x.held(0, 0, 2));
            is("promise", 0, x.promise(0, 0, 1, 0));
            is("MUCH", 1, x.held(0, 0, 1));
            is("YEAR 0 isn't none", 0, x.held(0, 0, 2));
            is("promise", 1, x.promise(0, 0, 3, 60));
            is("MUCH", 3, x.held(0, 0, 1));
            is("YEAR", 60, x.held(0, 0, 2));
            is("none", 3, x.promise(0, 0, 0, 60));
            is("YEAR", NONE, x.held(0, 0, 2));
        });
        holds(8, "WHY it may not: 1 it HOLDS none, 2 what it has PROMISED, 3 SPARE (0: it may)", () -> {
            CopyKeeper x = with("library 9;library 9;work 1 3;holds 1 0 1;promise 0 0 1 0;");
            is("none, PROMISED, no SPARE", 1, x.held(0, 0, 6));
            x.own(0, 0, 1);
            is("PROMISED, no SPARE", 2, x.held(0, 0, 6));
            x.own(0, 0, 2);
            is("one is free, no SPARE: 3 of KEEP 3", 3, x.held(0, 0, 6));
            x.keep(0, 2);
            is("it may", 0, x.held(0, 0, 6));
            x.promise(0, 0, 2, 0);
            is("PROMISED, SPARE", 2, x.held(0, 0, 6));
            x.years(1);
            is("it doesn't count any more", 0, x.held(0, 0, 6));
            x.keep(0, 15);
            is("SHORT", 3, x.held(0, 0, 6));
            x.own(0, 0, 0);
            is("none, no SPARE", 1, x.held(0, 0, 6));
            x.keep(0, 0);
            is("none, SPARE", 1, x.held(0, 0, 6));
        });
    }

    private static void lacks() {
        holds(9, "LACK of a set of LIBRARIES (bits). IllegalArgumentException: below 0, or others than there are.", () -> {
            for (int many = 0; many <= 5; many++) {
                CopyKeeper x = with("library 3;".repeat(many) + "work 1 0;");
                for (int set = 0; set < 1 << many; set++) is("lack(" + set + ") of " + many, 0, x.lack(set));
                for (int bit = many; bit < 32; bit++) {
                    int other = 1 << bit, more = other | (1 << many) - 1;
                    illegal("lack(" + other + ") of " + many, () -> x.lack(other));
                    illegal("lack(" + more + ") of " + many, () -> x.lack(more));
                }
                illegal("below 0", () -> x.lack(-1));
                illegal("far below 0", () -> x.lack(Integer.MIN_VALUE));
                illegal("far above", () -> x.lack(Integer.MAX_VALUE));
            }
        });
        holds(9, "LACK of a set of LIBRARIES: their NEEDS together less what they can have: of each WORK its SPARE, or, if that is less, "
                + "their OFFERS of it together.", () -> {
            CopyKeeper x = with("library 0;library 0;work 1 0;work 1 0;holds 0 0 2;holds 1 0 2;holds 1 1 1;promise 1 1 1 0;");
            int[][] due = {{0, 0, 1, 1}, {1, 0, 1, 2}, {2, 0, 1, 3}, {3, 1, 2, 4}, {4, 2, 3, 5}, {5, 2, 3, 5}};
            for (int[] d : due) {
                x.keep(0, d[0]);
                is("of none", 0, x.lack(0));
                for (int set = 1; set <= 3; set++) is("lack(" + set + ") by KEEP " + d[0], d[set], x.lack(set));
            }
        });
    }

    private static void orders() {
        holds(10, "ORDERS: how many (i NONE); the i-th LIBRARY (0 on) in the BEST.", () -> {
            int[] all = {1, 1, 2, 6, 24, 120};
            String row = "";
            for (int many = 0; many <= 5; many++) {
                CopyKeeper x = with("library 1;".repeat(many));
                is("ORDERS of " + many, all[many], x.order(NONE));
                same("all are alike: the first", row, best(x));
                is("SPACE of the BEST", 0, x.count(27));
                row += many;
            }
        });
        holds(10, "NoSuchElementException: also there is none.", () -> {
            CopyKeeper x = with(STUCK);
            is("how many", 0, x.order(NONE));
            noSuch("order(0)", () -> x.order(0));
            noSuch("order(1)", () -> x.order(1));
            is("SPACE", NONE, x.count(27));
            is("room", 0, x.room(0, 0, 1));
            is("how many", 1, x.order(NONE));
            is("order(0)", 0, x.order(0));
            noSuch("order(1)", () -> x.order(1));
            noSuch("order(-2)", () -> x.order(-2));
            for (int far : FAR) if (far != NONE) noSuch("order(" + far + ")", () -> x.order(far));
            CopyKeeper y = new CopyKeeper();
            is("of no LIBRARIES", 1, y.order(NONE));
            noSuch("order(0)", () -> y.order(0));
            CopyKeeper z = with("library 1;".repeat(5));
            is("order(4)", 4, z.order(4));
            noSuch("order(5)", () -> z.order(5));
        });
        holds(10, "those by which none withdraws fewer than its NEED", () -> {
            // one copy may go of WORK 0; 1 needs it, 0 would take it; 2 has nothing
            CopyKeeper x = with("library 9 1;library 0 0;library 9;work 5 1;holds 0 0 1;holds 1 0 1;");
            is("1 ahead of 0", 3, x.order(NONE));
            same("the first of these", "102", best(x));
            is("SPACE", 5, x.count(27));
            x.room(0, 1, 0);
            is("0 takes none", 6, x.order(NONE));
            same("the first", "012", best(x));
            x.keep(0, 2);
            is("none", 0, x.order(NONE));
        });
        holds(10, "the BEST of them: of most SPACE (of like ones the first, LIBRARY by LIBRARY the lesser ahead)", () -> {
            // of WORK 0 one copy may go: 2 can withdraw that alone, 0 and 1 another as well, of SIZE 1 and 4
            CopyKeeper x = with("library 9 1;library 9 1;library 9 1;work 5 2;work 1 0;work 4 0;holds 0 0 1;holds 1 0 1;holds 2 0 1;"
                    + "holds 0 1 1;holds 1 2 1;");
            is("2 ahead of 0 and 1: 5 and 1 and 4", 10, x.count(27));
            same("2 0 1", "201", best(x));
            is("all", 6, x.order(NONE));
            x.own(2, 0, 0);
            x.keep(0, 1);
            is("0 ahead of 1: 5 and 4", 9, x.count(27));
            same("0 1 2, as 0 2 1 and 2 0 1", "012", best(x));
            x.own(0, 1, 0);
            is("0 ahead of 1", 9, x.count(27));
            x.own(1, 2, 0);
            x.own(0, 1, 1);
            is("1 ahead of 0: 5 and 1", 6, x.count(27));
            same("1 0 2", "102", best(x));
        });
    }

    interface Question {
        int ask(CopyKeeper x);
    }

    private static List<Question> questions(CopyKeeper of) {
        List<Question> all = new ArrayList<>();
        for (int i = 0; i < 28; i++) {
            int k = i;
            all.add(x -> x.count(k));
        }
        for (int i = 0; i < of.count(0); i++) for (int k : new int[] {4, 6, 9, 10, 11, 12}) {
            int l = i;
            all.add(x -> x.library(l, k));
        }
        for (int i = 0; i < of.count(1); i++) for (int k : new int[] {5, 6, 9, 10}) {
            int w = i;
            all.add(x -> x.work(w, k));
        }
        all.add(x -> x.held(0, 0, 5));
        all.add(x -> x.lack(1));
        all.add(x -> x.order(NONE));
        for (int i = 0; i < 3; i++) {
            int k = i;
            all.add(x -> x.fits(k));
            all.add(x -> x.drawn(7654321, 40, k));
            if (k < 2) all.add(x -> x.look(k));
        }
        return all;
    }

    private static void alone() {
        holds(5, "Nothing is promised beyond the answers and state changes described above", () -> {
            String[] texts = {"library 2 1;library 3 2;work 3 1;work 5 1;holds 0 0 3;holds 0 1 1;holds 1 0 1;holds 1 1 3;promise 0 0 1 4;",
                "library 1;library 3;work 3 4;work 5 1;holds 0 0 3;holds 0 1 1;holds 1 0 1;promise 0 1 1 4;"};
            for (String text : texts) {
                List<Question> all = questions(with(text));
                int[] due = new int[all.size()];
                for (int i = 0; i < due.length; i++) due[i] = all.get(i).ask(with(text));
                // no question changes what another one answers behind it
                for (int i = 0; i < due.length; i++) {
                    CopyKeeper x = with(text);
                    for (int j = 0; j < due.length; j++) {
                        all.get(i).ask(x);
                        is("question " + j + " behind question " + i, due[j], all.get(j).ask(x));
                    }
                }
            }
        });
    }
}
