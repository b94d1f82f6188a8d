/** Boundary cases of promises 1 to 4: a new object, the tape, TEXTS and their FAULTS. */
public final class BoundaryOfTexts extends Sheet {
    private static final String ONE = "library 9;work 1 1;";

    public static void main(String[] args) {
        objects();
        tapes();
        desks();
        numbers();
        tokens();
        faults();
        end();
    }

    private static String blanks(int many) {
        return " ".repeat(many);
    }

    private static void objects() {
        holds(1, "No LIBRARIES, no WORKS.", () -> {
            CopyKeeper x = new CopyKeeper();
            is("count(0)", 0, x.count(0));
            is("count(1)", 0, x.count(1));
            noSuch("library(0, 0)", () -> x.library(0, 0));
            noSuch("work(0, 0)", () -> x.work(0, 0));
            noSuch("held(0, 0, 0)", () -> x.held(0, 0, 0));
            noSuch("order(0)", () -> x.order(0));
            illegal("lack(1)", () -> x.lack(1));
            is("lack(0)", 0, x.lack(0));
            is("own", NONE, x.own(0, 0, 1));
            is("keep", NONE, x.keep(0, 0));
            is("send", NONE, x.send(0, 0));
            is("there is a PLAN, of nothing", 1, x.count(5));
            is("carry", 0, x.carry());
        });
        holds(1, "YEAR is 0 at first.", () -> {
            CopyKeeper x = new CopyKeeper();
            is("count(2)", 0, x.count(2));
            is("of a TEXT", 0, with(ONE).count(2));
        });
        holds(1, "THE STORE has room for so many copies (0 to 20; 0 without), and has none at first.", () -> {
            is("new: room", 0, new CopyKeeper().count(25));
            is("new: copies", 0, new CopyKeeper().count(26));
            CopyKeeper x = with("library 9;work 1 1;holds 0 0 1;");
            is("without: room", 0, x.count(25));
            is("without: copies", 0, x.count(26));
            is("without: send", NONE, x.send(0, 0));
            CopyKeeper y = with("library 9;work 1 1;holds 0 0 1;store 1;");
            is("room", 1, y.count(25));
            is("copies", 0, y.count(26));
            is("of the WORK", 0, y.work(0, 8));
            is("send", 1, y.send(0, 0));
        });
        holds(1, "An object is used for at most 512 calls after it has been made", () -> {
            CopyKeeper x = new CopyKeeper();
            int n = Tape.feed(x::feed, "work 1 0;");
            x.desk(n);
            int keep = 0;
            for (int call = 3; call < 512; call++) {
                is("keep, call " + call, keep, x.keep(0, call % 16));
                keep = call % 16;
            }
            is("the 512th call", keep, x.work(0, 1));
        });
    }

    private static void tapes() {
        holds(2, "Twenty bytes come behind the tape, of each number the highest first", () -> {
            CopyKeeper x = new CopyKeeper();
            // "library 1;work 2 15;" and "holds 0 0 3;store 7;"
            is("feed", 20, x.feed(0x6c696272, 0x61727920, 0x313b776f, 0x726b2032, 0x2031353b));
            is("feed", 40, x.feed(0x686f6c64, 0x73203020, 0x3020333b, 0x73746f72, 0x6520373b));
            is("desk", 0, x.desk(40));
            is("ROOM", 1, x.library(0, 0));
            is("KEEP", 15, x.work(0, 1));
            is("HOLDS", 3, x.held(0, 0, 0));
            is("store", 7, x.count(25));
        });
        holds(2, "of each number the highest first: how many it has", () -> {
            int[] blank = {0x20202020, 0x20202020, 0x20202020, 0x20202020, 0x20202020};
            // a byte that is none, in each of the twenty places
            for (int place = 0; place < 20; place++) {
                int[] n = blank.clone();
                n[place / 4] |= 0x80 << 24 - 8 * (place % 4);
                CopyKeeper x = new CopyKeeper();
                is("feed", 20, x.feed(n[0], n[1], n[2], n[3], n[4]));
                is("desk", 1, x.desk(20));
                is("its place", place, x.fault());
            }
        });
        holds(2, "NONE, and none come, if it would have more than 700.", () -> {
            CopyKeeper x = new CopyKeeper();
            for (int i = 1; i <= 35; i++) is("feed " + i, 20 * i, x.feed(0x20202020, 0x20202020, 0x20202020, 0x20202020, 0x20202020));
            for (int i = 0; i < 3; i++) is("feed beyond", NONE, x.feed(0x61616161, 0x61616161, 0x61616161, 0x61616161, 0x61616161));
            is("the tape", 700, x.count(19));
            illegal("desk(701)", () -> x.desk(701));
            illegal("desk(720)", () -> x.desk(720));
            is("no other bytes are in it", 0, x.desk(700));
            is("it is empty", 0, x.count(19));
            is("feed", 20, x.feed(0, 0, 0, 0, 0));
        });
        holds(2, "how many it has; NONE, and none come", () -> {
            CopyKeeper x = new CopyKeeper();
            // the last twenty bytes stay as they came
            is("fed", 700, Tape.feed(x::feed, blanks(680) + "work 4 1;work 5 2;  "));
            is("feed beyond", NONE, x.feed(0, 0, 0, 0, 0));
            is("desk", 0, x.desk(700));
            is("WORKS", 2, x.count(1));
            is("SIZE", 5, x.work(1, 0));
        });
    }

    private static void desks() {
        holds(3, "The tape's first n bytes (it is empty then) are a TEXT", () -> {
            CopyKeeper x = new CopyKeeper();
            is("nothing at all", 0, x.desk(0));
            Tape.feed(x::feed, "library 12;work 3 4;");
            is("no bytes of twenty", 0, x.desk(0));
            is("the tape", 0, x.count(19));
            is("LIBRARIES", 0, x.count(0));
            Tape.feed(x::feed, "library 12;work 3 4;");
            is("the first clause", 0, x.desk(11));
            is("the tape", 0, x.count(19));
            is("LIBRARIES", 1, x.count(0));
            is("WORKS", 0, x.count(1));
            Tape.feed(x::feed, "library 12;work 3 4;");
            is("in the midst of a NUMBER", 1, x.desk(9));
            is("its place", 9, x.fault());
            Tape.feed(x::feed, "library 12;work 3 4;");
            is("in the midst of a word", 1, x.desk(13));
            is("its place: the word's first byte", 11, x.fault());
            Tape.feed(x::feed, "library 12;work 3 4;");
            is("all", 0, x.desk(20));
            is("WORKS", 1, x.count(1));
        });
        holds(3, "(it is empty then)", () -> {
            CopyKeeper x = new CopyKeeper();
            Tape.feed(x::feed, "work 1 1;" + blanks(11) + "library 5;" + blanks(10));
            is("the first half", 0, x.desk(20));
            illegal("the other half is gone", () -> x.desk(1));
            is("feed", 20, Tape.feed(x::feed, "work 2 2;work 3 3;  "));
            is("the tape", 20, x.count(19));
            is("desk", 0, x.desk(20));
            is("WORKS", 2, x.count(1));
            is("LIBRARIES", 0, x.count(0));
        });
        holds(3, "are a TEXT, all anew (YEAR 0)", () -> {
            CopyKeeper x = with("library 1 2;library 9;work 9 9;work 8 0;holds 0 0 3;holds 1 1 2;promise 0 0 1 60;store 5;");
            is("years", 9, x.years(9));
            is("send", 1, x.send(1, 1));
            is("go", 1, x.go(1, 1));
            is("desk", 0, read(x, "library 3;work 7 0;work 6 1;"));
            is("LIBRARIES", 1, x.count(0));
            is("YEAR", 0, x.count(2));
            is("copies", 0, x.count(3));
            is("of the first", 0, x.held(0, 0, 0));
            is("of the second", 0, x.held(0, 1, 0));
            is("PROMISE", 0, x.held(0, 0, 1));
            is("its YEAR", NONE, x.held(0, 0, 2));
            is("WISH", 20, x.library(0, 1));
            is("KEEP", 0, x.work(0, 1));
            is("room of THE STORE", 0, x.count(25));
            is("copies in it", 0, x.count(26));
            is("copies that went", 0, x.count(4));
            is("desk of none", 0, x.desk(0));
            is("LIBRARIES", 0, x.count(0));
            is("WORKS", 0, x.count(1));
        });
        holds(3, "all anew", () -> {
            // THE PLAN was asked for, and carried out, ahead of a smaller TEXT
            CopyKeeper x = with("library 9;library 9;work 2 0;work 3 0;holds 0 0 3;holds 0 1 2;holds 1 1 3;");
            same("THE PLAN", "32 03", plan(x));
            is("desk", 0, read(x, "library 9;work 5 0;holds 0 0 1;"));
            same("THE PLAN", "1", plan(x));
            is("copies", 1, x.library(0, 4));
            is("WON", 5, x.library(0, 5));
            is("of the WORK", 1, x.work(0, 5));
            is("carry", 1, x.carry());
            is("HELD", 0, x.count(3));
            is("undo", 0, x.undo());
            is("HELD", 1, x.count(3));
            is("desk of the greater one", 0, read(x, "library 9;library 9;work 2 0;work 3 0;holds 0 1 1;"));
            same("THE PLAN", "01 00", plan(x));
            is("carry", 1, x.carry());
            is("HELD", 0, x.count(3));
            is("desk with no PLAN", 0, read(x, "library 0;work 1 1;holds 0 0 1;"));
            is("none", NONE, x.held(0, 0, 5));
            is("carry", NONE, x.carry());
            is("desk", 0, read(x, "library 9;work 1 0;holds 0 0 3;"));
            same("THE PLAN", "3", plan(x));
            is("desk without WORKS", 0, read(x, "library 9;"));
            is("copies", 0, x.library(0, 4));
            is("WON", 0, x.library(0, 5));
            is("carry", 0, x.carry());
            is("desk without LIBRARIES", 0, read(x, "work 1 0;"));
            is("of the WORK", 0, x.work(0, 5));
            is("carry", 0, x.carry());
        });
        holds(3, "or the FAULT (the tape is empty then, too; all else stays, but STATUS).", () -> {
            CopyKeeper x = with("library 9;work 2 1;holds 0 0 3;promise 0 0 1 5;store 2;");
            is("years", 4, x.years(4));
            is("send", 1, x.send(0, 0));
            is("note", 1, x.note(2));
            x.image();
            is("refused", NONE, x.note(-2));
            is("refused", NONE, x.go(9, 9));
            String before = picture(x);
            is("desk", 2, read(x, "library 1;work 10 1;"));
            is("the tape", 0, x.count(19));
            is("STATUS 0", 1, x.count(20));
            is("STATUS 1", 1, x.count(21));
            is("STATUS 2", 1, x.count(22));
            same("all else", before, picture(x));
            is("ACTS", 1, x.undo());
            is("the image", 1, x.restore() ? 1 : 0);
            same("all of it", before, picture(x));
        });
        holds(3, "ACTS, what is NOTED, the image are gone.", () -> {
            CopyKeeper x = with(ONE);
            is("own", 0, x.own(0, 0, 2));
            is("note", 1, x.note(0));
            is("refused", NONE, x.own(0, 0, 2));
            is("refused", NONE, x.note(1000));
            is("refused", 1, read(x, "x"));
            x.image();
            is("desk", 0, read(x, ONE));
            is("ACTS", 0, x.count(17));
            is("none to undo", NONE, x.undo());
            is("NOTED", 0, x.count(18));
            is("the image", 0, x.restore() ? 1 : 0);
            is("STATUS is not among them", 1, x.count(20));
            is("STATUS 1", 1, x.count(21));
            is("STATUS 2", 1, x.count(22));
        });
        holds(3, "IllegalArgumentException: the tape has not so many, n below 0 (nothing changes).", () -> {
            CopyKeeper x = with("library 9;work 2 1;holds 0 0 3;");
            is("a FAULT", 1, read(x, "  x"));
            is("years", 1, x.years(1));
            is("note", 1, x.note(4));
            x.image();
            illegal("of an empty tape", () -> x.desk(1));
            Tape.feed(x::feed, "library 1;");
            String before = picture(x);
            illegal("one too many", () -> x.desk(21));
            illegal("far too many", () -> x.desk(Integer.MAX_VALUE));
            illegal("below 0", () -> x.desk(-1));
            illegal("far below 0", () -> x.desk(Integer.MIN_VALUE));
            is("the tape", 20, x.count(19));
            is("the FAULT's place", 2, x.fault());
            is("STATUS", 1, x.count(20));
            same("all else", before, picture(x));
            is("the image", 1, x.restore() ? 1 : 0);
            is("just so many", 0, x.desk(20));
        });
        holds(4, "The place of the latest desk()'s FAULT; NONE without.", () -> {
            CopyKeeper x = new CopyKeeper();
            is("new", NONE, x.fault());
            is("at 0", 1, read(x, "7"));
            is("fault", 0, x.fault());
            x.image();
            is("at 12", 3, read(x, "library 1;  holds 1 0 1;"));
            is("fault", 18, x.fault());
            is("restore is no desk()", 1, x.restore() ? 1 : 0);
            is("fault", 18, x.fault());
            illegal("n", () -> x.desk(-1));
            is("fault", 18, x.fault());
            is("desk", 0, x.desk(0));
            is("fault", NONE, x.fault());
        });
    }

    /** Each NUMBER of one or two digits, as the last one before a ';'. */
    private static void range(String before, int least, int most) {
        for (int n = 0; n < 100; n++) {
            int due = n >= least && n <= most ? 0 : 2;
            fault(before + n + ";", due, due == 0 ? NONE : before.length());
            if (n < 10) fault(before + "0" + n + ";", due, due == 0 ? NONE : before.length());
        }
        fault(before + "100;", 2, before.length());
        fault(before + "000;", 2, before.length());
        fault(before + "001;", 2, before.length());
        fault(before + "00000000000000000001;", 2, before.length());
        fault(before + "4294967297;", 2, before.length());
    }

    private static void numbers() {
        holds(3, "LIBRARIES 0, 1 .. (at most 5)", () -> {
            CopyKeeper x = with("library 0;".repeat(5));
            is("LIBRARIES", 5, x.count(0));
            is("the last", 0, x.library(4, 0));
            noSuch("one more", () -> x.library(5, 0));
            fault("library 0;".repeat(6), 2, 50);
            fault("library 0;".repeat(5) + "\nlibrary", 2, 51);
        });
        holds(3, "each with a ROOM (0 to 20: copies)", () -> range("library ", 0, 20));
        holds(3, "a WISH (0 to 20: more than that it doesn't withdraw at once; 20 without)", () -> {
            range("library 5 ", 0, 20);
            is("without", 20, with("library 5;").library(0, 1));
            is("0 isn't without", 0, with("library 5 0;").library(0, 1));
            is("20", 20, with("library 5 20;").library(0, 1));
        });
        holds(3, "WORKS 0, 1 .. (at most 6)", () -> {
            CopyKeeper x = with("work 1 0;".repeat(6));
            is("WORKS", 6, x.count(1));
            is("the last", 1, x.work(5, 0));
            noSuch("one more", () -> x.work(6, 0));
            fault("work 1 0;".repeat(7), 2, 54);
            fault("work 1 0;".repeat(6) + "\n\nwork", 2, 56);
        });
        holds(3, "each of a SIZE (1 to 9)", () -> {
            for (int n = 0; n < 100; n++) {
                boolean can = n >= 1 && n <= 9;
                fault("work " + n + " 0;", can ? 0 : 2, can ? NONE : 5);
            }
            fault("work 001 0;", 2, 5);
        });
        holds(3, "a KEEP (0 to 15: so many copies are to be kept by all LIBRARIES together)", () -> range("work 1 ", 0, 15));
        holds(3, "THE STORE has room for so many copies (0 to 20; 0 without)", () -> range("store ", 0, 20));
        holds(3, "(COPIES 1 to 3)", () -> range("library 0;work 1 1;holds 0 0 ", 1, 3));
        holds(3, "may have a PROMISE for it: MUCH (1 to 3), until a YEAR (0 to 60), that one, too", () -> {
            range("library 0;work 1 1;promise 0 0 3 ", 0, 60);
            for (int n = 0; n < 100; n++) {
                boolean can = n >= 1 && n <= 3;
                fault("library 0;work 1 1;promise 0 0 " + n + " 60;", can ? 0 : 2, can ? NONE : 31);
            }
        });
        holds(3, "A LIBRARY HOLDS 0 to 3 copies of a WORK (0 first)", () -> {
            CopyKeeper x = with("library 9;library 9;work 1 1;work 1 1;holds 1 0 3;");
            is("first", 0, x.held(0, 0, 0));
            is("first", 0, x.held(1, 1, 0));
            is("told", 3, x.held(1, 0, 0));
        });
        holds(3, "a NUMBER of 3 digits or more, or not as told (LIBRARY 0 to 4, WORK 0 to 5)", () -> {
            String five = "library 0;".repeat(5), six = "work 1 0;".repeat(6);
            for (String word : new String[] {"holds ", "promise "}) {
                String end = word.equals("holds ") ? " 1;" : " 1 1;";
                int at = 104 + word.length();
                for (int n = 0; n < 100; n++) {
                    boolean library = n <= 4, work = n <= 5;
                    fault(five + six + word + n + " 5" + end, library ? 0 : 2, library ? NONE : at);
                    fault(five + six + word + "4 " + n + end, work ? 0 : 2, work ? NONE : at + 2);
                }
                fault(five + six + word + "000 0" + end, 2, at);
                fault(five + six + word + "0 000" + end, 2, at + 2);
            }
        });
    }

    private static void tokens() {
        holds(3, "A TEXT of at most 700 bytes tells it.", () -> {
            is("700 blanks", 700, Tape.feed(new CopyKeeper()::feed, blanks(700)));
            is("WORKS", 1, with("work 1 1" + blanks(691) + ";").count(1));
            is("WORKS", 1, with(blanks(691) + "work 1 1;").count(1));
            fault("work 1 1;" + blanks(690) + "x", 1, 699);
            fault("work 1 1" + blanks(692), 1, 700);
            fault("work 1 " + "1".repeat(693), 2, 7);
            fault("w".repeat(700), 1, 0);
            fault("work 1 1".repeat(87) + "abcd", 1, 8);
        });
        holds(3, "words (a .. z, the longest row)", () -> {
            String[] clauses = {"library 1;", "work 1 1;", "store 1;"};
            for (String clause : clauses) {
                int end = clause.indexOf(' ');
                fault(clause, 0, NONE);
                for (int i = 1; i < end; i++) fault(clause.substring(0, i) + clause.substring(end), 1, 0);
                for (int i = 1; i < end; i++) fault(clause.substring(0, i) + " " + clause.substring(i), 1, 0);
                for (int i = 0; i < end; i++) {
                    for (char other : new char[] {'j', 'q', 'z'}) fault(clause.substring(0, i) + other + clause.substring(i + 1), 1, 0);
                }
                for (char more : new char[] {'a', 'm', 'z'}) {
                    fault(clause.substring(0, end) + more + clause.substring(end), 1, 0);
                    fault(more + clause, 1, 0);
                }
                for (int i = 0; i < end; i++) {
                    fault(clause.substring(0, i) + (char) (clause.charAt(i) - 32) + clause.substring(i + 1), 1, 0);
                }
            }
            fault("hold 0 0 1;", 1, 0);
            fault("promises 0 0 1 1;", 1, 0);
            fault("librarywork 1 1;", 1, 0);
            fault("a", 1, 0);
            fault("z", 1, 0);
        });
        holds(3, "NUMBERS (1 or 2 digits)", () -> {
            is("1", 1, with("library 1;").library(0, 0));
            is("01", 1, with("library 01;").library(0, 0));
            is("00", 0, with("library 00 00;").library(0, 1));
            is("09", 9, with("library 09;").library(0, 0));
            is("10", 10, with("library 10;").library(0, 0));
            is("two of one digit", 0, with("library 1 0;").library(0, 1));
            fault("library 010;", 2, 8);
            fault("library -1;", 1, 8);
            fault("library +1;", 1, 8);
            fault("library 1.0;", 1, 9);
        });
        holds(3, "blanks (32, 10) between them, which count for nothing", () -> {
            for (int sign = 0; sign < 256; sign++) {
                boolean blank = sign == 32 || sign == 10;
                String text = "work 1 1" + (char) sign + ";";
                if (blank) fault(text, 0, NONE);
                else if (sign == ';') fault(text, 1, 9);
                else if (sign >= '0' && sign <= '5') fault(text, 0, NONE);
                else if (sign >= '6' && sign <= '9') fault(text, 2, 7);
                else fault(text, 1, 8);
                fault((char) sign + "work 1 1;", blank ? 0 : 1, blank ? NONE : 0);
                fault("work 1 1;" + (char) sign, blank ? 0 : 1, blank ? NONE : 9);
            }
            CopyKeeper x = with("\n\n  library\n\n 3 \n 4 ;\nwork5 6;store7;  \n");
            is("WISH", 4, x.library(0, 1));
            is("KEEP", 6, x.work(0, 1));
            is("room", 7, x.count(25));
        });
        holds(3, "TEXT: CLAUSE*.", () -> {
            fault("", 0, NONE);
            fault(" ", 0, NONE);
            fault("\n", 0, NONE);
            fault(";", 1, 0);
            fault(" ;", 1, 1);
            fault("1", 1, 0);
            fault("work 1 1;;", 1, 9);
            fault("work 1 1;1;", 1, 9);
            fault("store 1;work 2 2;library 1;", 0, NONE);
        });
        holds(3, "CLAUSE: ('library' ROOM [WISH] | 'work' SIZE KEEP | 'holds' LIBRARY WORK COPIES | "
                + "'promise' LIBRARY WORK MUCH YEAR | 'store' NUMBER) ';'.", () -> {
            String[] clauses = {"library 1 1", "work 1 1", "holds 0 0 1", "promise 0 0 1 1", "store 1"};
            String told = "library 1;work 1 1;";
            for (String clause : clauses) {
                String all = told + clause;
                fault(all + ";", 0, NONE);
                // one NUMBER too many, or something else instead of the ';'
                fault(all + " 1;", 1, all.length() + 1);
                fault(all + " 999;", 1, all.length() + 1);
                fault(all + "work;", 1, all.length());
                fault(all, 1, all.length());
                fault(all + blanks(7), 1, all.length() + 7);
                int word = clause.indexOf(' ');
                for (int i = clause.startsWith("library") ? word : clause.length() - 2; i >= word; i -= 2) {
                    // too few NUMBERS: a ';', a word, the end in the place of one
                    String begun = told + clause.substring(0, i);
                    fault(begun + ";", 1, begun.length());
                    fault(begun + " x;", 1, begun.length() + 1);
                    fault(begun, 1, begun.length());
                }
            }
            is("[WISH]", 20, with("library 7;").library(0, 1));
            fault("library;", 1, 7);
            fault("library 1 1 1;", 1, 12);
        });
    }

    private static void faults() {
        holds(3, "FAULTS, the first along the text, at a TOKEN's first byte, of one TOKEN the least", () -> {
            fault("library 21;x", 2, 8);
            fault("x;library 21;", 1, 0);
            fault("library 21 21;", 2, 8);
            fault("library 20 21", 2, 11);
            fault("store 1;holds 0 0 9;store 2;", 3, 14);
            fault("store 1;store 2;holds 0 0 9;", 4, 8);
            // 1 ahead of 2: a NUMBER that is too much where none can stand
            fault("999", 1, 0);
            fault("work 1 1 999;", 1, 9);
            fault("library 1 2 99;", 1, 12);
            fault("store 1 21;", 1, 8);
            // 1 ahead of 2: a 6th 'library' where no word can stand
            fault("library 1;".repeat(5) + "store 1 library", 1, 58);
            fault("library 1;".repeat(4) + "library 1 library", 1, 50);
            // 2 ahead of 3: a LIBRARY, a WORK that is not as told, nor told ahead
            fault("holds 5 0 1;", 2, 6);
            fault("holds 4 0 1;", 3, 6);
            fault("library 1;holds 0 6 1;", 2, 18);
            fault("library 1;holds 0 5 1;", 3, 18);
            fault("library 1;holds 0 0 1;", 3, 18);
            fault("work 1 1;holds 0 0 1;", 3, 15);
            // 1 ahead of 4: a second 'store' where no word can stand
            fault("store 1 store 1;", 1, 8);
            // 2 ahead of 4: the WORK told twice by a NUMBER of 3 digits
            fault("library 1;work 1 1;holds 0 0 1;holds 0 000 1;", 2, 39);
            // the LIBRARY comes ahead of the WORK, both of COPIES
            fault("holds 5 6 4;", 2, 6);
            fault("library 1;holds 0 6 4;", 2, 18);
            fault("library 1;work 1 1;holds 0 0 1;holds 0 0 9;", 4, 39);
            fault("library 1;work 1 1;holds 0 0 1;holds 0 0 x;", 4, 39);
            fault("library 1;work 1 1;promise 0 0 1 1;promise 0 0", 4, 45);
        });
        holds(3, "1 a TOKEN that can't stand there, or is none (the text's length where it ends too soon)", () -> {
            fault("library", 1, 7);
            fault("library  ", 1, 9);
            fault("library 1", 1, 9);
            fault("library 1\n", 1, 10);
            fault("library 1 2", 1, 11);
            fault("work", 1, 4);
            fault("work 1", 1, 6);
            fault("store", 1, 5);
            fault("store 1;store", 4, 8);
            fault("work 1 1;\n%", 1, 10);
            fault("work % 1;", 1, 5);
            fault("work%1 1;", 1, 4);
            fault("work 1%;", 1, 6);
            CopyKeeper x = new CopyKeeper();
            Tape.feed(x::feed, "library 1;" + blanks(30));
            is("the TEXT's length, not the tape's", 1, x.desk(9));
            is("place", 9, x.fault());
            Tape.feed(x::feed, "library 1 ;" + blanks(30));
            is("a blank behind", 1, x.desk(10));
            is("place", 10, x.fault());
        });
        holds(3, "the first word of the 6th 'library', the 7th 'work'", () -> {
            String five = "library 1;".repeat(5), six = "work 1 1;".repeat(6);
            fault(five, 0, NONE);
            fault(five + "library 1;", 2, 50);
            fault(five + "library 99;", 2, 50);
            fault(five + "library", 2, 50);
            fault(five + "libraries", 1, 50);
            fault(six, 0, NONE);
            fault(six + "work 1 1;", 2, 54);
            fault(six + "work 0 99;", 2, 54);
            fault(six + "work", 2, 54);
            fault(six + "works", 1, 54);
            fault(five + six, 0, NONE);
            fault(five + six + "library 1;", 2, 104);
            fault(five + six + "work 1 1;", 2, 104);
        });
        holds(3, "3 a LIBRARY, a WORK that isn't told ahead", () -> {
            String all = "";
            for (int told = 0; told <= 4; told++) {
                fault(all + "work 1 1;holds " + told + " 0 1;", 3, all.length() + 15);
                fault(all + "work 1 1;promise " + told + " 0 1 1;", 3, all.length() + 17);
                all += "library 1;";
                fault(all + "work 1 1;holds " + told + " 0 1;", 0, NONE);
                fault(all + "work 1 1;promise " + told + " 0 1 1;", 0, NONE);
            }
            all = "library 1;";
            for (int told = 0; told <= 5; told++) {
                fault(all + "holds 0 " + told + " 1;", 3, all.length() + 8);
                fault(all + "promise 0 " + told + " 1 1;", 3, all.length() + 10);
                all += "work 1 1;";
                fault(all + "holds 0 " + told + " 1;", 0, NONE);
                fault(all + "promise 0 " + told + " 1 1;", 0, NONE);
            }
            fault("holds 0 0 1;library 1;work 1 1;", 3, 6);
            fault("library 1;holds 0 0 1;work 1 1;", 3, 18);
            fault("library 1;work 1 1;holds 1 0 1;library 1;", 3, 25);
        });
        holds(3, "4 at the WORK: that LIBRARY's 'holds' of it, or 'promise' for it, is told already; at a second 'store'.", () -> {
            String two = "library 1;library 1;work 1 1;work 1 1;";
            fault(two + "holds 0 0 1;holds 0 0 1;", 4, 58);
            fault(two + "holds 0 0 3;holds 0 0 1;", 4, 58);
            fault(two + "holds 1 1 1;holds 1 1 1;", 4, 58);
            fault(two + "holds 0 0 1;holds 0 1 1;holds 1 0 1;holds 1 1 1;", 0, NONE);
            fault(two + "promise 0 0 1 0;promise 0 0 1 0;", 4, 64);
            fault(two + "promise 1 1 3 9;promise 1 1 2 8;", 4, 64);
            fault(two + "promise 0 0 1 1;promise 0 1 1 1;promise 1 0 1 1;promise 1 1 1 1;", 0, NONE);
            // 'holds' and 'promise' are not in each other's way
            fault(two + "promise 0 0 1 0;holds 0 0 1;", 0, NONE);
            fault(two + "holds 0 0 1;promise 0 0 1 0;holds 0 0 1;", 4, 74);
            fault("store 0;store 0;", 4, 8);
            fault("store 0;store 21;", 4, 8);
            fault("store 5;work 1 1;\nstore 5;", 4, 18);
            fault("store 0;", 0, NONE);
            CopyKeeper x = with("library 1;work 1 1;holds 0 0 1;promise 0 0 1 1;store 1;");
            is("another TEXT tells them anew", 0, read(x, "library 1;work 1 1;holds 0 0 2;promise 0 0 2 2;store 2;"));
            is("HOLDS", 2, x.held(0, 0, 0));
            is("a FAULT behind them", 1, read(x, "library 1;work 1 1;holds 0 0 3;promise 0 0 3 3;store 3;x"));
            is("and anew", 0, read(x, "library 1;work 1 1;holds 0 0 3;promise 0 0 3 3;store 3;"));
            is("room", 3, x.count(25));
        });
    }
}
