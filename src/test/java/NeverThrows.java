import java.util.NoSuchElementException;

/** Any number in any place, in many states: each call throws only what the document tells of it. */
public final class NeverThrows {
    private static final int[] ANY = {Integer.MIN_VALUE, Integer.MIN_VALUE + 1, -65536, -2, -1, 0, 1, 2, 3, 4, 5, 6, 7, 9, 15, 20,
        31, 32, 60, 999, 1 << 16, 1 << 30, Integer.MAX_VALUE - 1, Integer.MAX_VALUE};
    private static final int[] FEW = {Integer.MIN_VALUE, -1, 0, 1, 4, 5, 6, Integer.MAX_VALUE};
    private static final String[] TEXTS = {"", "library 0;", "work 9 15;", "library 0;work 3 1;holds 0 0 1;",
        "library 2 1;library 9;work 3 0;work 2 0;holds 0 0 3;holds 1 0 1;holds 1 1 2;promise 1 0 1 5;store 2;",
        "library 0;".repeat(5) + "work 9 0;".repeat(6) + Tape.pairs(5, 6, "holds", "3"),
        "library 20;".repeat(5) + "work 1 15;".repeat(6) + Tape.pairs(5, 6, "promise", "3 6")};
    private static int wrong = 0;
    private static int asked = 0;
    private static int state = 0;

    interface Call {
        void make(CopyKeeper x);
    }

    private static CopyKeeper desk;
    private static int calls;

    /** An object in the state that is asked of; a new one before its 512 calls are over. */
    private static CopyKeeper desk() {
        if (desk == null || calls > 450) {
            desk = new CopyKeeper();
            int n = Tape.feed(desk::feed, TEXTS[state]);
            if (desk.desk(n) != 0) throw new IllegalStateException("text " + state + " is refused at " + desk.fault());
            desk.image();
            calls = 40;
        }
        calls++;
        return desk;
    }

    private static void only(String name, Call call, Class<?>... allowed) {
        asked++;
        try {
            call.make(desk());
        } catch (Throwable e) {
            for (Class<?> each : allowed) if (e.getClass() == each) return;
            wrong++;
            System.out.println("text " + state + ": " + name + " threw " + e);
            desk = null;
        }
    }

    private static void askAll() {
        Class<?> none = NoSuchElementException.class, not = IllegalArgumentException.class;
        for (int a : ANY) {
            only("feed", x -> x.feed(a, ~a, -a, a ^ 5, a));
            only("count " + a, x -> x.count(a), none);
            only("lack " + a, x -> x.lack(a), not);
            only("order " + a, x -> x.order(a), none);
            only("years " + a, x -> x.years(a));
            only("note " + a, x -> x.note(a));
            only("fits " + a, x -> x.fits(a), none);
            only("look " + a, x -> x.look(a), none);
            only("desk " + a, x -> { if (a != 0) x.desk(a); }, not);
            only("fault", CopyKeeper::fault);
            only("carry", CopyKeeper::carry);
            only("undo", CopyKeeper::undo);
            only("forget", CopyKeeper::forget);
            only("restore", CopyKeeper::restore);
            for (int b : ANY) {
                only("library " + a + " " + b, x -> x.library(a, b), none);
                only("work " + a + " " + b, x -> x.work(a, b), none);
                only("keep " + a + " " + b, x -> x.keep(a, b));
                only("go " + a + " " + b, x -> x.go(a, b));
                only("send " + a + " " + b, x -> x.send(a, b));
                only("restore", CopyKeeper::restore);
            }
        }
        for (int a : FEW) for (int b : FEW) for (int c : ANY) {
            only("held " + a + " " + b + " " + c, x -> x.held(a, b, c), none);
            only("own " + a + " " + b + " " + c, x -> x.own(a, b, c));
            only("room " + a + " " + b + " " + c, x -> x.room(a, b, c));
            only("give " + a + " " + b + " " + c, x -> x.give(a, b, c));
            only("drawn " + c + " " + a + " " + b, x -> x.drawn(c, a, b), none, not);
            only("promise " + a + " " + b + " " + c, x -> { x.promise(a, b, c, c); x.promise(a, b, 1, c); });
        }
        only("image", CopyKeeper::image);
    }

    public static void main(String[] args) {
        for (state = 0; state < TEXTS.length; state++) {
            desk = null;
            askAll();
        }
        System.out.println(wrong == 0 ? asked + " calls threw only what is told of them" : wrong + " calls threw something else");
        if (wrong != 0) System.exit(1);
    }
}
