import java.util.NoSuchElementException;

/** Each promise of the document by itself, with answers worked out by hand. */
public final class PromiseTests {
    private static final int NONE = CopyKeeper.NONE;
    private static final long NO_SUCH = Long.MIN_VALUE;
    private static final long ILLEGAL = Long.MIN_VALUE + 1;
    private static int wrong = 0;
    private static int asked = 0;
    private static int promise = 0;

    interface Call {
        long ask();
    }

    private static void due(String name, long want, Call call) {
        long got;
        try {
            got = call.ask();
        } catch (NoSuchElementException e) {
            got = NO_SUCH;
        } catch (IllegalArgumentException e) {
            got = ILLEGAL;
        }
        asked++;
        if (got != want) {
            wrong++;
            System.out.println("promise " + promise + ": " + name + " answered " + got + ", due is " + want);
        }
    }

    private static CopyKeeper with(String text) {
        CopyKeeper x = new CopyKeeper();
        int n = Tape.feed(x::feed, text);
        due("desk of <" + text + ">", 0, () -> x.desk(n));
        return x;
    }

    private static void refused(String text, int fault, int place) {
        CopyKeeper x = new CopyKeeper();
        int n = Tape.feed(x::feed, text);
        due("desk of <" + text + ">", fault, () -> x.desk(n));
        due("fault of <" + text + ">", place, x::fault);
    }

    /** Two LIBRARIES, two WORKS: OFFERS 1 3 / 2 1, SPARE 2 3, NEEDS 2 1. */
    private static final String TWO = "library 3;library 2 4;work 4 2;work 3 1;"
            + "holds 0 0 2;holds 0 1 3;holds 1 0 2;holds 1 1 1;promise 0 0 1 4;";

    private static void p1() {
        CopyKeeper x = new CopyKeeper();
        int[] zeros = {0, 1, 2, 3, 4, 6, 7, 8, 9, 10, 11, 12, 13, 15, 16, 17, 18, 19, 20, 21, 22, 23, 25, 26, 27};
        for (int what : zeros) due("count(" + what + ")", 0, () -> x.count(what));
        due("count(5)", 1, () -> x.count(5));
        due("count(14)", NONE, () -> x.count(14));
        due("count(24)", NONE, () -> x.count(24));
        due("fault", NONE, x::fault);
        due("library", NO_SUCH, () -> x.library(0, 0));
        due("restore", 0, () -> x.restore() ? 1 : 0);
        due("NONE", -1, () -> CopyKeeper.NONE);
        due("desk of nothing", 0, () -> x.desk(0));
    }

    private static void p2() {
        CopyKeeper x = new CopyKeeper();
        // "work 1 0;" with its highest byte first, then blanks
        due("feed", 20, () -> x.feed(0x776f726b, 0x20312030, 0x3b202020, 0x20202020, 0x0a0a0a0a));
        due("desk", 0, () -> x.desk(20));
        due("works", 1, () -> x.count(1));
        for (int i = 1; i <= 35; i++) {
            int n = 20 * i;
            due("feed", n, () -> x.feed(0x20202020, 0x20202020, 0x20202020, 0x20202020, 0x20202020));
        }
        due("feed beyond 700", NONE, () -> x.feed(0x41414141, 0x41414141, 0x41414141, 0x41414141, 0x41414141));
        due("tape", 700, () -> x.count(19));
        due("desk", 0, () -> x.desk(700));
        CopyKeeper y = new CopyKeeper();
        due("feed", 20, () -> y.feed(0x20202020, 0x20202020, 0x20202020, 0x20202020, 0x2020203b));
        due("each byte of the last number", 1, () -> y.desk(20));
        due("its place", 19, y::fault);
        due("bytes above 127 are none", 20, () -> y.feed(0xE9202020, 0, 0, 0, 0));
        due("desk", 1, () -> y.desk(20));
        due("its place", 0, y::fault);
    }

    private static void p3() {
        CopyKeeper x = with(TWO);
        due("acts", 3, () -> x.years(3));
        due("note", 1, () -> x.note(5));
        due("go", 1, () -> x.go(0, 0));
        due("refused", NONE, () -> x.own(9, 9, 9));
        x.image();
        due("n below 0", ILLEGAL, () -> x.desk(-1));
        due("n above the tape", ILLEGAL, () -> x.desk(1));
        Tape.feed(x::feed, "library");
        due("n above the tape", ILLEGAL, () -> x.desk(21));
        due("nothing changed", 20, () -> x.count(19));
        due("ends too soon", 1, () -> x.desk(7));
        due("tape", 0, () -> x.count(19));
        due("all else stays", 2, () -> x.count(0));
        due("YEAR stays", 3, () -> x.count(2));
        due("ACTS stay", 2, () -> x.count(17));
        due("NOTED stays", 1, () -> x.count(18));
        due("STATUS", 1, () -> x.count(20));
        due("the image stays", 1, () -> x.restore() ? 1 : 0);
        int n = Tape.feed(x::feed, "work 2 1;holds");
        due("only the first n bytes", 0, () -> x.desk(n - 5));
        due("tape", 0, () -> x.count(19));
        due("LIBRARIES", 0, () -> x.count(0));
        due("WORKS", 1, () -> x.count(1));
        due("YEAR", 0, () -> x.count(2));
        due("went", 0, () -> x.count(4));
        due("ACTS", 0, () -> x.count(17));
        due("NOTED", 0, () -> x.count(18));
        due("STATUS of ACTS stays", 1, () -> x.count(21));
        due("image", 0, () -> x.restore() ? 1 : 0);
        due("no fault", NONE, x::fault);
        clauses();
        faults();
    }

    private static void clauses() {
        CopyKeeper x = with("library 0;library 20 0;library 05 20;library 1;library 2;work 9 15;work 1 0;work 2 3;"
                + "work 4 5;work 6 7;work 8 9;\nholds 4 5 3;promise 4 5 3 60;promise 0 0 1 0;store 20;");
        due("ROOM", 5, () -> x.library(2, 0));
        due("WISH without", 20, () -> x.library(0, 1));
        due("WISH", 0, () -> x.library(1, 1));
        due("SIZE", 9, () -> x.work(0, 0));
        due("KEEP", 15, () -> x.work(0, 1));
        due("holds", 3, () -> x.held(4, 5, 0));
        due("promise", 60, () -> x.held(4, 5, 2));
        due("promise of none held", 1, () -> x.held(0, 0, 1));
        due("store", 20, () -> x.count(25));
        CopyKeeper y = with("library1 2;work3 4;holds0 0 1;store 0;");
        due("no blanks are needed between unlike TOKENS", 2, () -> y.library(0, 1));
        due("HOLDS", 1, () -> y.count(3));
    }

    private static void faults() {
        refused("libraries 1;", 1, 0);
        refused("libraryz 1;", 1, 0);
        refused("alibrary 1;", 1, 0);
        refused("zwork 1 1;", 1, 0);
        refused("librar 1;", 1, 0);
        refused("Library 1;", 1, 0);
        refused("{library 1;", 1, 0);
        refused("library 1/;", 1, 9);
        refused("library 1:;", 1, 9);
        refused("library;", 1, 7);
        refused("library 1", 1, 9);
        refused("library 1  ", 1, 11);
        refused("library 1 2 3;", 1, 12);
        refused("library 1 2 333;", 1, 12);
        refused("library 1;;", 1, 10);
        refused("library 1\t;", 1, 9);
        refused("library x;", 1, 8);
        refused("library 21;", 2, 8);
        refused("library 020;", 2, 8);
        refused("library 20 21;", 2, 11);
        refused("work 0 1;", 2, 5);
        refused("work 10 1;", 2, 5);
        refused("work 9 16;", 2, 7);
        refused("work 9;", 1, 6);
        refused("library 1;library 1;library 1;library 1;library 1;library 1;", 2, 50);
        refused("work 1 1;work 1 1;work 1 1;work 1 1;work 1 1;work 1 1;work x;", 2, 54);
        refused("library 1;work 1 1;holds 5 0 1;", 2, 25);
        refused("library 1;work 1 1;holds 4 0 1;", 3, 25);
        refused("library 1;work 1 1;holds 0 6 1;", 2, 27);
        refused("library 1;work 1 1;holds 0 5 1;", 3, 27);
        refused("library 1;work 1 1;holds 0 0 0;", 2, 29);
        refused("library 1;work 1 1;holds 0 0 4;", 2, 29);
        refused("library 1;work 1 1;holds 0 0 1;holds 0 0 2;", 4, 39);
        refused("library 1;work 1 1;promise 0 0 1 1;promise 0 0 1 1;", 4, 45);
        refused("library 1;work 1 1;promise 0 0 4 1;", 2, 31);
        refused("library 1;work 1 1;promise 0 0 0 1;", 2, 31);
        refused("library 1;work 1 1;promise 0 0 3 61;", 2, 33);
        refused("library 1;work 1 1;promise 0 0 3;", 1, 32);
        refused("holds 0 0 1;library 1;work 1 1;", 3, 6);
        refused("store 21;", 2, 6);
        refused("store;", 1, 5);
        refused("store 0;store 0;", 4, 8);
        refused("store 1 1;", 1, 8);
        with("library 1;work 1 1;holds 0 0 1;promise 0 0 1 1;");
    }

    private static void p4() {
        CopyKeeper x = new CopyKeeper();
        Tape.feed(x::feed, "  store 1 x");
        due("desk", 1, () -> x.desk(11));
        due("fault", 10, x::fault);
        due("wrong n", ILLEGAL, () -> x.desk(1));
        due("fault stays", 10, x::fault);
        due("desk", 0, () -> x.desk(0));
        due("without", NONE, x::fault);
    }

    private static void p5() {
        CopyKeeper x = with(TWO + "store 2;");
        long[] want = {2, 2, 0, 8, 0, 1, 17, 5, 0, 0, 0, 0, 0, 0, NONE, 0, 0, 0, 0, 0, 0, 0, 0, 0, NONE, 2, 0, 17};
        for (int i = 0; i < want.length; i++) {
            int what = i;
            due("count(" + i + ")", want[i], () -> x.count(what));
        }
        due("below", NO_SUCH, () -> x.count(-1));
        due("above", NO_SUCH, () -> x.count(28));
        // One LIBRARY lacks 2: OFFERS 3 of work 0 are cut by SPARE 1, a PROMISE keeps the other WORK.
        CopyKeeper y = with("library 2;work 2 2;work 5 0;holds 0 0 3;holds 0 1 2;promise 0 1 2 7;");
        due("no PLAN", 0, () -> y.count(5));
        due("SPACE", NONE, () -> y.count(6));
        due("copies", NONE, () -> y.count(7));
        due("CHANGES", NONE, () -> y.count(8));
        due("SHORTAGE", 2, () -> y.count(9));
        due("its LIBRARIES", 1, () -> y.count(10));
        due("its WORKS", 1, () -> y.count(11));
        due("LATE", 8, () -> y.count(12));
        due("IN THE WAY", 1, () -> y.count(13));
        due("the first", 1, () -> y.count(14));
        due("HELP", NONE, () -> y.count(23));
        due("FIRST", NONE, () -> y.count(24));
        due("BEST", NONE, () -> y.count(27));
        // Never: KEEP holds it back for good.
        CopyKeeper z = with("library 0;library 1;work 1 3;work 1 1;holds 0 0 2;holds 0 1 1;");
        due("LATE", NONE, () -> z.count(12));
        due("LAST", 2, () -> z.count(15));
        due("SHORT", 1, () -> z.count(16));
        due("SHORTAGE", 3, () -> z.count(9));
        due("no WORK is scarcer", 3, () -> z.count(11));
        shortage();
        late();
        changes();
        helped();
    }

    private static void shortage() {
        // each LIBRARY lacks 1 alone and so do both: the fewest, then the least
        CopyKeeper x = with("library 0;library 0;work 1 1;work 1 1;holds 0 0 1;holds 1 1 1;");
        due("both lack 2", 2, () -> x.count(9));
        due("both", 3, () -> x.count(10));
        CopyKeeper y = with("library 0;library 1;library 0;work 1 1;work 1 0;holds 0 0 1;holds 2 0 1;holds 1 1 1;");
        due("1 of 2 copies is spare", 1, () -> y.count(9));
        due("0 and 2", 5, () -> y.count(10));
        due("WORK 0", 1, () -> y.count(11));
        CopyKeeper z = with("library 0;library 0;library 0;work 1 2;work 1 0;holds 0 1 1;holds 1 0 1;holds 2 0 1;promise 0 1 1 1;"
                + "promise 2 0 1 1;promise 1 0 1 1;");
        due("all PROMISED", 3, () -> z.count(9));
        // one LIBRARY's set is as bad as that with one that lacks nothing
        CopyKeeper w = with("library 3;library 0;work 1 1;holds 1 0 1;");
        due("fewest", 2, () -> w.count(10));
    }

    private static void late() {
        CopyKeeper x = with("library 0;work 1 0;holds 0 0 1;promise 0 0 1 60;");
        due("the year behind the last", 61, () -> x.count(12));
        due("years", 9, () -> x.years(9));
        due("still", 61, () -> x.count(12));
        due("none any more", 1, () -> x.promise(0, 0, 0, 0));
        due("now", 9, () -> x.count(12));
    }

    private static void changes() {
        // The first LIBRARY withdraws 1 of WORK 0, the second 1 of WORK 1; each could do the other.
        CopyKeeper x = with("library 1 1;library 1 1;work 1 1;work 1 1;holds 0 0 1;holds 0 1 1;holds 1 0 1;holds 1 1 1;");
        due("0 withdraws WORK 0", 1, () -> x.held(0, 0, 5));
        due("1 withdraws WORK 1", 1, () -> x.held(1, 1, 5));
        due("CHANGES", 1, () -> x.count(8));
        due("promise in the way of a change", 0, () -> x.promise(1, 0, 1, 0));
        due("CHANGES", 0, () -> x.count(8));
        // IN THE WAY: SPACE would be more
        CopyKeeper y = with("library 9;work 2 0;work 3 0;holds 0 0 2;holds 0 1 1;promise 0 0 1 3;promise 0 1 1 2;");
        due("SPACE", 2, () -> y.count(6));
        due("IN THE WAY", 2, () -> y.count(13));
        due("first", 0, () -> y.count(14));
        due("years", 3, () -> y.years(3));
        due("IN THE WAY", 1, () -> y.count(13));
        due("years", 4, () -> y.years(1));
        due("those that don't count", 0, () -> y.count(13));
    }

    private static void helped() {
        CopyKeeper x = with("library 1;library 3;library 3;work 1 3;holds 0 0 3;");
        due("two GIVEN", 2, () -> x.count(23));
        due("the first", 10, () -> x.count(24));
        due("room", 3, () -> x.room(1, 0, 0));
        due("two GIVEN to the other", 2, () -> x.count(23));
        due("the first", 20, () -> x.count(24));
        due("room", 3, () -> x.room(2, 0, 1));
        due("only room for one", NONE, () -> x.count(23));
        due("none first", NONE, () -> x.count(24));
        // LACK 1, but the only one with room can't OFFER what it gets: still it ends the NEED of the other.
        CopyKeeper y = with("library 0;library 1;work 1 1;holds 0 0 1;promise 1 0 3 9;");
        due("one GIVEN", 1, () -> y.count(23));
        due("it", 10, () -> y.count(24));
        due("room too small", 1, () -> y.room(1, 0, 0));
        due("none", NONE, () -> y.count(23));
    }

    private static void p6() {
        CopyKeeper x = with(TWO);
        long[][] want = {{3, 20, 5, 2, 4, 13, 2, 0, 0, 17, 0, 11, 0}, {2, 4, 3, 1, 1, 4, 2, 0, 0, 17, 0, 13, 0}};
        for (int i = 0; i < 2; i++) {
            for (int j = 0; j < 13; j++) {
                int l = i, what = j;
                due("library(" + i + "," + j + ")", want[i][j], () -> x.library(l, what));
            }
        }
        due("bounds", NO_SUCH, () -> x.library(0, -1));
        due("bounds", NO_SUCH, () -> x.library(0, 13));
        due("no such", NO_SUCH, () -> x.library(2, 0));
        due("no such", NO_SUCH, () -> x.library(-1, 0));
    }

    private static void p6more() {
        // SIZES 2 and 5; the wish of LIBRARY 1 is 1, of which it takes WORK 1.
        CopyKeeper x = with("library 2 0;library 9 1;work 2 1;work 5 1;holds 0 0 3;holds 1 0 1;holds 1 1 3;");
        due("NEED", 1, () -> x.library(0, 3));
        due("copies of 0", 1, () -> x.library(0, 4));
        due("WON by 0", 2, () -> x.library(0, 5));
        due("copies of 1", 1, () -> x.library(1, 4));
        due("WON by 1", 5, () -> x.library(1, 5));
        due("TIGHTER 0", 2, () -> x.library(0, 6));
        due("TIGHTER 1: 5 copies beyond its own are free, 2 of WORK 1 may go, and what 0 leaves", 8, () -> x.library(1, 6));
        due("LOST with 0: nothing", 0, () -> x.library(0, 7));
        due("LOST with 1: WORK 1", 2, () -> x.library(1, 7));
        due("none of it then", 2, () -> x.library(1, 8));
        due("none of WORK 0 without 0: there is", 0, () -> x.library(0, 8));
        due("BY TURNS", 7, () -> x.library(0, 9));
        due("none lacks", 0, () -> x.library(0, 10));
        due("APART from 0", 5, () -> x.library(0, 11));
        due("APART from 1", 2, () -> x.library(1, 11));
        due("PRICE of 0: WISH 1 is no more than NEED", 0, () -> x.library(0, 12));
        due("PRICE of 1", 5, () -> x.library(1, 12));
        due("wish", 1, () -> x.room(1, 1, 20));
        due("PRICE at 20", 0, () -> x.library(1, 12));
        // Who comes first takes what the other needs.
        CopyKeeper y = with("library 9 1;library 1;work 3 1;work 2 1;holds 0 0 1;holds 1 0 1;holds 1 1 1;");
        due("from 0: 1 lacks", 2, () -> y.library(0, 10));
        due("SPACE", 3, () -> y.library(0, 9));
        due("from 1: none", 0, () -> y.library(1, 10));
        due("SPACE", 3, () -> y.library(1, 9));
        CopyKeeper z = with("library 1;work 1 2;holds 0 0 2;");
        due("no PLAN: copies", NONE, () -> z.library(0, 4));
        due("no PLAN: WON", NONE, () -> z.library(0, 5));
        due("no PLAN: TIGHTER", NONE, () -> z.library(0, 6));
        due("no PLAN: PRICE", NONE, () -> z.library(0, 12));
        due("APART", 0, () -> z.library(0, 11));
        CopyKeeper w = with("library 2;library 0;work 1 1;holds 1 0 1;");
        due("APART from 0: none", NONE, () -> w.library(0, 11));
        due("LOST of SHORT ones, too", 1, () -> w.library(1, 7));
    }

    private static void p7() {
        CopyKeeper x = with("library 2 0;library 9 1;work 2 1;work 5 1;holds 0 0 3;holds 1 0 1;holds 1 1 3;store 1;");
        due("SIZE", 5, () -> x.work(1, 0));
        due("KEEP", 1, () -> x.work(0, 1));
        due("copies", 4, () -> x.work(0, 2));
        due("SPARE", 3, () -> x.work(0, 3));
        due("SHORT", 0, () -> x.work(0, 4));
        due("go by THE PLAN", 1, () -> x.work(0, 5));
        due("STRICTER", 2, () -> x.work(0, 6));
        due("STRICTER of one that needn't go", 15, () -> x.work(1, 6));
        due("who HOLDS it", 3, () -> x.work(0, 7));
        due("who HOLDS it", 2, () -> x.work(1, 7));
        due("in THE STORE", 0, () -> x.work(1, 8));
        due("SAFE", 1, () -> x.work(1, 9));
        due("SAFE: 3, then 1 more", 2, () -> x.work(0, 9));
        due("PRICE: nobody may take more", 0, () -> x.work(0, 10));
        due("sent", 1, () -> x.send(1, 1));
        due("in THE STORE", 1, () -> x.work(1, 8));
        due("copies are as many", 3, () -> x.work(1, 2));
        due("SAFE: never", NONE, () -> x.work(1, 9));
        due("keep", 1, () -> x.keep(1, 5));
        due("SHORT", 2, () -> x.work(1, 4));
        due("SPARE", 0, () -> x.work(1, 3));
        due("SAFE: so now", 0, () -> x.work(1, 9));
        due("keep", 1, () -> x.keep(0, 0));
        due("PRICE of KEEP 0", NONE, () -> x.work(0, 10));
        due("bounds", NO_SUCH, () -> x.work(0, 11));
        due("bounds", NO_SUCH, () -> x.work(0, -1));
        due("no such", NO_SUCH, () -> x.work(2, 0));
        due("no such", NO_SUCH, () -> x.work(-1, 0));
        CopyKeeper y = with("library 1;work 7 1;holds 0 0 2;");
        due("PRICE", 7, () -> y.work(0, 10));
        due("keep", 1, () -> y.keep(0, 2));
        due("no PLAN: copies", NONE, () -> y.work(0, 5));
        due("no PLAN: STRICTER", NONE, () -> y.work(0, 6));
        due("no PLAN: PRICE", NONE, () -> y.work(0, 10));
        CopyKeeper z = with("library 5;work 7 15;holds 0 0 2;");
        due("STRICTER is counted from KEEP on", 15, () -> z.work(0, 6));
    }

    private static void p8() {
        CopyKeeper x = with(TWO);
        long[][] want = {{2, 1, 4, 1, 1, 1, 0}, {3, 0, NONE, 0, 3, 3, 0}, {2, 0, NONE, 0, 2, 1, 0}, {1, 0, NONE, 0, 1, 0, 0}};
        for (int i = 0; i < 4; i++) {
            for (int j = 0; j < 7; j++) {
                int pair = i, what = j;
                due("held(" + i / 2 + "," + i % 2 + "," + j + ")", want[i][j], () -> x.held(pair / 2, pair % 2, what));
            }
        }
        due("bounds", NO_SUCH, () -> x.held(0, 0, 7));
        due("bounds", NO_SUCH, () -> x.held(0, 0, -1));
        due("no such", NO_SUCH, () -> x.held(2, 0, 0));
        due("no such", NO_SUCH, () -> x.held(0, 2, 0));
        due("no such", NO_SUCH, () -> x.held(-1, 0, 0));
        due("no such", NO_SUCH, () -> x.held(0, -1, 0));
        due("years", 4, () -> x.years(4));
        due("its last YEAR counts", 1, () -> x.held(0, 0, 3));
        due("years", 5, () -> x.years(1));
        due("not any more", 0, () -> x.held(0, 0, 3));
        due("MUCH stays", 1, () -> x.held(0, 0, 1));
        due("OFFER", 2, () -> x.held(0, 0, 4));
        CopyKeeper y = with("library 9;library 1;work 1 2;work 1 0;holds 0 0 2;holds 0 1 1;promise 0 1 3 9;holds 1 1 2;work 1 0;promise 1 2 1 1;");
        due("WHY: SPARE", 3, () -> y.held(0, 0, 6));
        due("WHY: PROMISED", 2, () -> y.held(0, 1, 6));
        due("OFFER is never below 0", 0, () -> y.held(0, 1, 4));
        due("WHY: none", 1, () -> y.held(1, 0, 6));
        due("WHY: none, though PROMISED", 1, () -> y.held(1, 2, 6));
        due("keep", 2, () -> y.keep(0, 3));
        due("room", 1, () -> y.room(1, 0, 0));
        due("a PLAN of 2", 2, () -> y.held(1, 1, 5));
        due("promise", 0, () -> y.promise(1, 1, 1, 0));
        due("no PLAN", NONE, () -> y.held(0, 0, 5));
    }

    private static void p9() {
        CopyKeeper x = with("library 0;library 1;work 2 4;work 1 0;holds 0 0 3;holds 1 0 2;holds 1 1 1;");
        due("LACK of none", 0, () -> x.lack(0));
        due("LACK of 0", 2, () -> x.lack(1));
        due("LACK of 1: its OFFERS, and SPARE", 0, () -> x.lack(2));
        due("LACK of both", 3, () -> x.lack(3));
        due("another one", ILLEGAL, () -> x.lack(4));
        due("below 0", ILLEGAL, () -> x.lack(-1));
        due("below 0", ILLEGAL, () -> x.lack(Integer.MIN_VALUE));
        due("room", 1, () -> x.room(1, 0, 20));
        due("LACK below 0", -2, () -> x.lack(2));
    }

    private static void p10() {
        CopyKeeper x = with("library 9 1;library 1;work 3 1;work 2 1;holds 0 0 1;holds 1 0 1;holds 1 1 1;");
        due("ORDERS", 1, () -> x.order(NONE));
        due("first", 1, () -> x.order(0));
        due("second", 0, () -> x.order(1));
        due("bounds", NO_SUCH, () -> x.order(2));
        due("bounds", NO_SUCH, () -> x.order(-2));
        due("BEST", 3, () -> x.count(27));
        due("keep", 1, () -> x.keep(0, 2));
        due("no ORDERS", 0, () -> x.order(NONE));
        due("no BEST", NO_SUCH, () -> x.order(0));
        due("no BEST", NONE, () -> x.count(27));
        // Best is not the first one: 0 would take the copy that only 2 can make up for.
        CopyKeeper y = with("library 9 1;library 9 1;library 9 1;work 5 1;work 4 0;work 1 0;"
                + "holds 0 0 1;holds 0 1 1;holds 1 0 1;holds 2 2 1;");
        due("ORDERS", 6, () -> y.order(NONE));
        due("first", 1, () -> y.order(0));
        due("second", 0, () -> y.order(1));
        due("third", 2, () -> y.order(2));
        due("BEST", 10, () -> y.count(27));
    }

    private static void p11() {
        CopyKeeper x = with("library 0;work 1 0;");
        due("own", 0, () -> x.own(0, 0, 3));
        due("own less", 3, () -> x.own(0, 0, 1));
        due("own none", 1, () -> x.own(0, 0, 0));
        due("so already", NONE, () -> x.own(0, 0, 0));
        due("number", NONE, () -> x.own(0, 0, 4));
        due("number", NONE, () -> x.own(0, 0, -1));
        due("LIBRARY", NONE, () -> x.own(1, 0, 1));
        due("LIBRARY", NONE, () -> x.own(-1, 0, 1));
        due("WORK", NONE, () -> x.own(0, 1, 1));
        due("WORK", NONE, () -> x.own(0, -1, 1));
        due("STATUS", 7, () -> x.count(21));
        due("ACTS", 3, () -> x.count(17));
        due("went", 0, () -> x.count(4));
    }

    private static void p12() {
        CopyKeeper x = with("library 0;work 1 0;holds 0 0 3;");
        due("promise", 0, () -> x.promise(0, 0, 2, 0));
        due("in place", 2, () -> x.promise(0, 0, 3, 60));
        due("YEAR", 60, () -> x.held(0, 0, 2));
        due("the same again is told, too", 3, () -> x.promise(0, 0, 3, 60));
        due("YEAR", NONE, () -> x.promise(0, 0, 1, 61));
        due("YEAR", NONE, () -> x.promise(0, 0, 1, -1));
        due("MUCH", NONE, () -> x.promise(0, 0, 4, 1));
        due("MUCH", NONE, () -> x.promise(0, 0, -1, 1));
        due("none any more", 3, () -> x.promise(0, 0, 0, -7));
        due("MUCH then", 0, () -> x.held(0, 0, 1));
        due("YEAR then", NONE, () -> x.held(0, 0, 2));
        due("there is none", NONE, () -> x.promise(0, 0, 0, 1));
        due("LIBRARY", NONE, () -> x.promise(1, 0, 1, 1));
        due("WORK", NONE, () -> x.promise(0, 1, 1, 1));
        due("STATUS", 7, () -> x.count(21));
        due("undo", 3, () -> x.undo());
        due("it is there again", 60, () -> x.held(0, 0, 2));
        due("undo", 2, () -> x.undo());
        due("undo", 1, () -> x.undo());
        due("MUCH before", 2, () -> x.held(0, 0, 1));
        due("YEAR before", 0, () -> x.held(0, 0, 2));
    }

    private static void p13() {
        CopyKeeper x = with("library 0;work 1 7;");
        due("keep", 7, () -> x.keep(0, 15));
        due("keep", 15, () -> x.keep(0, 0));
        due("the same", 0, () -> x.keep(0, 0));
        due("number", NONE, () -> x.keep(0, 16));
        due("number", NONE, () -> x.keep(0, -1));
        due("WORK", NONE, () -> x.keep(1, 1));
        due("WORK", NONE, () -> x.keep(-1, 1));
        due("STATUS", 4, () -> x.count(21));
        due("ACTS", 3, () -> x.count(17));
    }

    private static void p14() {
        CopyKeeper x = with("library 4 5;work 1 7;");
        due("ROOM", 4, () -> x.room(0, 0, 20));
        due("WISH", 5, () -> x.room(0, 1, 0));
        due("ROOM is", 20, () -> x.library(0, 0));
        due("WISH is", 0, () -> x.library(0, 1));
        due("the same", 20, () -> x.room(0, 0, 20));
        due("number", NONE, () -> x.room(0, 0, 21));
        due("number", NONE, () -> x.room(0, 1, -1));
        due("what", NONE, () -> x.room(0, 2, 1));
        due("what", NONE, () -> x.room(0, -1, 1));
        due("LIBRARY", NONE, () -> x.room(1, 0, 1));
        due("LIBRARY", NONE, () -> x.room(-1, 0, 1));
        due("STATUS", 6, () -> x.count(21));
        due("ACTS", 3, () -> x.count(17));
    }

    private static void p15() {
        CopyKeeper x = with("library 9;work 1 1;holds 0 0 3;");
        due("SPARE then", 1, () -> x.go(0, 0));
        due("SPARE then", 0, () -> x.go(0, 0));
        due("no SPARE", NONE, () -> x.go(0, 0));
        due("went", 2, () -> x.count(4));
        due("keep", 1, () -> x.keep(0, 0));
        due("promise", 0, () -> x.promise(0, 0, 1, 0));
        due("PROMISED", NONE, () -> x.go(0, 0));
        due("years", 1, () -> x.years(1));
        due("not any more", 0, () -> x.go(0, 0));
        due("HOLDS none", NONE, () -> x.go(0, 0));
        due("LIBRARY", NONE, () -> x.go(1, 0));
        due("WORK", NONE, () -> x.go(0, 1));
        due("STATUS", 5, () -> x.count(21));
        due("undo", 5, () -> x.undo());
        due("went", 2, () -> x.count(4));
    }

    private static void p16() {
        CopyKeeper x = with("library 0;library 3;work 1 9;work 1 0;holds 0 0 3;holds 0 1 2;holds 1 1 1;");
        due("give", 1, () -> x.give(0, 1, 0));
        due("give", 2, () -> x.give(0, 1, 0));
        due("ROOM is full", NONE, () -> x.give(0, 1, 0));
        due("room", 3, () -> x.room(1, 0, 9));
        due("give", 3, () -> x.give(0, 1, 0));
        due("none left", NONE, () -> x.give(0, 1, 0));
        due("own", 0, () -> x.own(0, 0, 1));
        due("3 of it there", NONE, () -> x.give(0, 1, 0));
        due("they are one", NONE, () -> x.give(1, 1, 1));
        due("promise", 0, () -> x.promise(0, 1, 2, 9));
        due("no OFFER", NONE, () -> x.give(0, 1, 1));
        due("LIBRARY", NONE, () -> x.give(2, 1, 0));
        due("to", NONE, () -> x.give(0, 2, 0));
        due("to", NONE, () -> x.give(0, -1, 0));
        due("WORK", NONE, () -> x.give(0, 1, 2));
        due("STATUS", 9, () -> x.count(21));
        due("none went", 0, () -> x.count(4));
        due("copies", 7, () -> x.count(3));
    }

    private static void p17() {
        CopyKeeper x = with("library 0;work 1 9;work 1 0;holds 0 0 3;holds 0 1 1;store 3;promise 0 0 1 0;");
        due("send", 1, () -> x.send(0, 0));
        due("send", 2, () -> x.send(0, 0));
        due("PROMISED", NONE, () -> x.send(0, 0));
        due("send", 1, () -> x.send(0, 1));
        due("copies stay", 3, () -> x.work(0, 2));
        due("HELD", 1, () -> x.count(3));
        due("in THE STORE", 3, () -> x.count(26));
        due("years", 1, () -> x.years(1));
        due("THE STORE is full", NONE, () -> x.send(0, 0));
        due("undo", 3, () -> x.undo());
        due("undo", 2, () -> x.undo());
        due("undo", 1, () -> x.undo());
        due("undo", 0, () -> x.undo());
        due("in THE STORE", 0, () -> x.count(26));
        due("LIBRARY", NONE, () -> x.send(1, 0));
        due("WORK", NONE, () -> x.send(0, 2));
        due("STATUS", 4, () -> x.count(21));
        CopyKeeper y = with("library 0;work 1 0;holds 0 0 1;");
        due("no STORE", NONE, () -> y.send(0, 0));
    }

    private static void p18() {
        CopyKeeper x = with(TWO);
        due("carry", 5, x::carry);
        due("HELD", 3, () -> x.count(3));
        due("went", 5, () -> x.count(4));
        due("its PROMISE is kept", 1, () -> x.held(0, 0, 0));
        due("nothing more to go", 0, x::carry);
        due("ACTS", 2, () -> x.count(17));
        due("undo", 1, () -> x.undo());
        due("undo", 0, () -> x.undo());
        due("HELD", 8, () -> x.count(3));
        due("went", 0, () -> x.count(4));
        due("keep", 1, () -> x.keep(1, 15));
        due("keep", 2, () -> x.keep(0, 15));
        due("no PLAN", NONE, x::carry);
        due("STATUS", 1, () -> x.count(21));
        due("ACTS", 2, () -> x.count(17));
    }

    private static void p19() {
        CopyKeeper x = new CopyKeeper();
        due("none", NONE, () -> x.years(0));
        due("too many", NONE, () -> x.years(10));
        due("below", NONE, () -> x.years(-1));
        due("far above", NONE, () -> x.years(Integer.MAX_VALUE));
        for (int i = 1; i <= 6; i++) {
            int year = 9 * i;
            due("years", year, () -> x.years(9));
        }
        due("above 60", NONE, () -> x.years(7));
        due("60", 60, () -> x.years(6));
        due("above 60", NONE, () -> x.years(1));
        due("STATUS", 6, () -> x.count(21));
        due("YEAR", 60, () -> x.count(2));
    }

    private static void p20() {
        CopyKeeper x = with("library 0;work 1 0;");
        due("none", NONE, x::undo);
        for (int i = 0; i < 45; i++) {
            int copies = i % 2 + 1;
            due("own", (i + 1) % 2 + (i == 0 ? -1 : 1), () -> x.own(0, 0, copies));
        }
        due("40 are kept", 40, () -> x.count(17));
        for (int i = 39; i >= 0; i--) {
            int left = i;
            due("left", left, x::undo);
        }
        due("none", NONE, x::undo);
        due("behind the fifth", 1, () -> x.held(0, 0, 0));
        due("none is refused", 0, () -> x.count(21));
    }

    /** More ACTS than the ring goes round twice. */
    private static void p20more() {
        CopyKeeper x = with("library 0;work 1 0;");
        for (int i = 0; i < 150; i++) {
            int copies = i % 16, before = i == 0 ? 0 : (i - 1) % 16;
            due("keep", before, () -> x.keep(0, copies));
        }
        for (int i = 39; i >= 0; i--) {
            int left = i, keep = (i + 109) % 16;
            due("left", left, x::undo);
            due("KEEP", keep, () -> x.work(0, 1));
        }
        due("none", NONE, x::undo);
    }

    private static void p21() {
        CopyKeeper x = new CopyKeeper();
        int[] spaces = {NONE, 0, 999, 0, 5, 5};
        due("below", NONE, () -> x.note(-2));
        due("above", NONE, () -> x.note(1000));
        for (int i = 0; i < 6; i++) {
            int space = spaces[i], many = i + 1;
            due("note", many, () -> x.note(space));
        }
        due("there are 6", NONE, () -> x.note(1));
        due("STATUS", 3, () -> x.count(22));
        due("NOTED", 6, () -> x.count(18));
        due("no ACT", 0, () -> x.count(17));
    }

    private static void p22() {
        // SPACE is 3 less KEEP, times 2
        CopyKeeper x = with("library 9;work 2 1;work 9 3;holds 0 0 3;");
        due("all that is NOTED, of none", 30, () -> x.fits(0));
        due("the first", 0, () -> x.fits(1));
        due("without", 1, () -> x.fits(2));
        due("note", 1, () -> x.note(2));
        due("KEEP 2", 1, () -> x.fits(0));
        due("it", 2, () -> x.fits(1));
        due("not without", 0, () -> x.fits(2));
        due("note", 2, () -> x.note(4));
        due("both can't be", 0, () -> x.fits(0));
        due("none", NONE, () -> x.fits(1));
        x.forget();
        due("note", 1, () -> x.note(4));
        due("so it is without", 1, () -> x.fits(2));
        due("KEEPS of the other WORK", 15, () -> x.fits(0));
        due("the first of it", 100, () -> x.fits(1));
        due("bounds", NO_SUCH, () -> x.fits(3));
        due("bounds", NO_SUCH, () -> x.fits(-1));
    }

    private static void p23() {
        // SPACE 0 by any KEEP of 3 on. ROOM one less of LIBRARY 1 changes nothing, of 0 there is no PLAN any more.
        CopyKeeper x = with("library 3;library 2;work 2 4;holds 0 0 3;work 1 0;holds 1 1 1;promise 1 1 1 9;");
        due("note", 1, () -> x.note(0));
        due("FITS", 12 + 15, () -> x.fits(0));
        due("first", 3, () -> x.fits(1));
        due("all alike: the first LIBRARY", 0, () -> x.look(0));
        due("how many", 1, () -> x.look(1));
        x.forget();
        due("none NOTED: KEEPS 0 to 3 differ", 0, () -> x.look(0));
        due("6 4 2 and none", 4, () -> x.look(1));
        due("bounds", NO_SUCH, () -> x.look(2));
        due("bounds", NO_SUCH, () -> x.look(-1));
        due("note", 1, () -> x.note(77));
        due("none fits", NONE, () -> x.look(0));
        due("none fits", 0, () -> x.look(1));
        // LIBRARY 1 is more telling: with less ROOM it must withdraw, which only KEEPS of its WORK let it.
        CopyKeeper y = with("library 9 0;library 1 0;work 1 1;holds 1 0 1;");
        due("note", 1, () -> y.note(0));
        due("LIBRARY 1", 1, () -> y.look(0));
        due("1 by KEEP 0, none by the others", 2, () -> y.look(1));
        // ROOM 0 can't be less: there it is as it is, and 0 is the first of like ones.
        CopyKeeper z = with("library 0 0;library 1 1;work 1 1;holds 1 0 1;");
        due("LIBRARY 0", 0, () -> z.look(0));
        due("1 by KEEP 0, 0 by the others", 2, () -> z.look(1));
    }

    private static void p24() {
        CopyKeeper x = with("library 9;work 2 1;holds 0 0 3;");
        due("note", 1, () -> x.note(1));
        due("note", 2, () -> x.note(2));
        x.forget();
        due("NOTED", 0, () -> x.count(18));
        due("FITS", 15, () -> x.fits(0));
        due("note", 1, () -> x.note(2));
        due("only the new one", 1, () -> x.fits(0));
    }

    private static void p25() {
        CopyKeeper x = with(TWO);
        due("bounds", NO_SUCH, () -> x.drawn(1, 1, 3));
        due("bounds ahead of n", NO_SUCH, () -> x.drawn(1, 99, -1));
        due("n", ILLEGAL, () -> x.drawn(1, 41, 0));
        due("n", ILLEGAL, () -> x.drawn(1, -1, 0));
        due("none", 8, () -> x.drawn(1, 0, 0));
        Model model = new Model();
        int n = Tape.feed(model::feed, TWO);
        model.desk(n);
        for (int seed = -9; seed < 9; seed++) {
            for (int what = 0; what < 3; what++) {
                int s = seed * 77777777, k = what;
                due("drawn(" + s + ", 40, " + k + ")", model.drawn(s, 40, k), () -> x.drawn(s, 40, k));
            }
        }
        due("nothing changed", 8, () -> x.count(3));
        due("nothing changed", 0, () -> x.count(17));
        // A DRAW of 6 of seed 1 is 1103527590 / 65536 % 6 = 2: one GOES. Then 2524885223 (as bits): WORK, LIBRARY 0.
        CopyKeeper y = with("library 0;work 1 0;holds 0 0 2;");
        due("one GOES", 1, () -> y.drawn(1, 1, 0));
        due("that went", 1, () -> y.drawn(1, 1, 1));
        CopyKeeper z = new CopyKeeper();
        due("without LIBRARIES a PLAN is carried out all the same", model(z, 5), () -> z.drawn(5, 40, 2));
    }

    /** How often a DRAW of 6 is 5 in 40, one behind the other. */
    private static int model(CopyKeeper unused, int seed) {
        int many = 0;
        for (int i = 0; i < 40; i++) {
            seed = seed * 1103515245 + 12345;
            if ((seed >>> 16 & 0x7fff) % 6 == 5) many++;
        }
        return many;
    }

    private static void p26and27() {
        CopyKeeper x = with(TWO);
        due("none", 0, () -> x.restore() ? 1 : 0);
        due("years", 2, () -> x.years(2));
        due("note", 1, () -> x.note(7));
        due("refused", NONE, () -> x.note(-9));
        due("refused", NONE, () -> x.years(0));
        x.image();
        due("carry", 5, x::carry);
        due("promise", 1, () -> x.promise(0, 0, 0, 0));
        due("note", 2, () -> x.note(8));
        due("refused", NONE, () -> x.note(-9));
        due("refused", NONE, () -> x.years(0));
        Tape.feed(x::feed, "x");
        due("refused", 1, () -> x.desk(1));
        for (int i = 0; i < 2; i++) {
            due("restore", 1, () -> x.restore() ? 1 : 0);
            due("HELD", 8, () -> x.count(3));
            due("went", 0, () -> x.count(4));
            due("YEAR", 2, () -> x.count(2));
            due("PROMISE", 4, () -> x.held(0, 0, 2));
            due("ACTS", 1, () -> x.count(17));
            due("NOTED", 1, () -> x.count(18));
            due("STATUS 0", 0, () -> x.count(20));
            due("STATUS 1", 1, () -> x.count(21));
            due("STATUS 2", 1, () -> x.count(22));
            due("its PLAN", 17, () -> x.library(0, 5) + x.library(1, 5));
            due("the ACT can be UNDONE", 0, x::undo);
            due("YEAR", 0, () -> x.count(2));
            x.forget();
        }
        otherActs();
        actsGoneRound();
        x.image();
        due("in place of the other one", 1, () -> x.restore() ? 1 : 0);
        due("YEAR", 0, () -> x.count(2));
        due("NOTED", 0, () -> x.count(18));
        due("the tape is not in it", 0, () -> x.count(19));
    }

    /** ACTS of an IMAGE stand again, though others took their places. */
    private static void otherActs() {
        CopyKeeper x = with(TWO);
        due("carry", 5, x::carry);
        due("keep", 1, () -> x.keep(1, 9));
        due("promise", 1, () -> x.promise(0, 0, 2, 5));
        x.image();
        for (int i = 2; i >= 0; i--) {
            int left = i;
            due("undo", left, x::undo);
        }
        due("years", 2, () -> x.years(2));
        due("own", 1, () -> x.own(1, 1, 3));
        due("wish", 4, () -> x.room(1, 1, 3));
        due("keep", 2, () -> x.keep(0, 3));
        due("restore", 1, () -> x.restore() ? 1 : 0);
        due("ACTS", 3, () -> x.count(17));
        due("undo", 2, x::undo);
        due("PROMISE", 4, () -> x.held(0, 0, 2));
        due("undo", 1, x::undo);
        due("KEEP", 1, () -> x.work(1, 1));
        due("undo", 0, x::undo);
        due("HELD", 8, () -> x.count(3));
        due("of WORK 1", 1, () -> x.held(1, 1, 0));
    }

    /** An IMAGE of ACTS of which the oldest are no longer kept. */
    private static void actsGoneRound() {
        CopyKeeper x = with("work 1 0;");
        for (int i = 1; i <= 50; i++) {
            int copies = i % 16;
            due("keep", (i - 1) % 16, () -> x.keep(0, copies));
        }
        x.image();
        for (int i = 0; i < 7; i++) due("keep", i == 0 ? 2 : 15, () -> x.keep(0, 15));
        due("restore", 1, () -> x.restore() ? 1 : 0);
        for (int i = 39; i >= 0; i--) {
            int left = i, keep = (i + 10) % 16;
            due("undo", left, x::undo);
            due("KEEP", keep, () -> x.work(0, 1));
        }
    }

    public static void main(String[] args) {
        Runnable[] all = {PromiseTests::p1, PromiseTests::p2, PromiseTests::p3, PromiseTests::p4, PromiseTests::p5,
            () -> { p6(); p6more(); }, PromiseTests::p7, PromiseTests::p8, PromiseTests::p9, PromiseTests::p10,
            PromiseTests::p11, PromiseTests::p12, PromiseTests::p13, PromiseTests::p14, PromiseTests::p15,
            PromiseTests::p16, PromiseTests::p17, PromiseTests::p18, PromiseTests::p19,
            () -> { p20(); p20more(); },
            PromiseTests::p21, PromiseTests::p22, PromiseTests::p23, PromiseTests::p24, PromiseTests::p25,
            PromiseTests::p26and27};
        for (Runnable each : all) {
            promise++;
            each.run();
        }
        System.out.println(wrong == 0 ? asked + " answers are as due" : wrong + " answers are not as due");
        if (wrong != 0) System.exit(1);
    }
}
