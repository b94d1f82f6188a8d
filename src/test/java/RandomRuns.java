import java.util.NoSuchElementException;
import java.util.Random;

/** Runs of calls by a seed, each answer compared with the model's. */
public final class RandomRuns {
    private final Random random;
    private final CopyKeeper desk = new CopyKeeper();
    private final Model model = new Model();
    private final StringBuilder story = new StringBuilder();
    private int libraries, works;
    static int wrong = 0;
    static long calls = 0;
    /** How often each kind of call was made. */
    static final int[] made = new int[27];
    /** Places of count() that have told something other than 0 or NONE. */
    static final boolean[] told = new boolean[28];

    interface Call {
        long ask();
    }

    RandomRuns(long seed) {
        random = new Random(seed);
    }

    static long answer(Call call) {
        try {
            return call.ask();
        } catch (NoSuchElementException e) {
            return Long.MIN_VALUE;
        } catch (IllegalArgumentException e) {
            return Long.MIN_VALUE + 1;
        }
    }

    long same(String name, Call ours, Call theirs) {
        long got = answer(ours), due = answer(theirs);
        calls++;
        story.append(name).append(" = ").append(due).append('\n');
        if (got != due) {
            wrong++;
            System.out.println("behind:\n" + story + name + " answered " + got + ", due is " + due);
            throw new IllegalStateException("an answer is wrong");
        }
        return due;
    }

    int below(int n) {
        return random.nextInt(n);
    }

    /** Mostly a number below n, at times one beside. */
    int about(int n) {
        return random.nextInt(12) == 0 ? random.nextInt(n + 3) - 1 : random.nextInt(Math.max(1, n));
    }

    String text(int mostLibraries, int mostWorks, int fill) {
        StringBuilder t = new StringBuilder();
        libraries = below(mostLibraries + 1);
        works = below(mostWorks + 1);
        if (random.nextBoolean()) {
            libraries = mostLibraries;
            works = mostWorks;
        }
        int sizes = random.nextBoolean() ? 9 : 2;
        int roomy = 1 + below(12);
        int keeps = 1 + below(6);
        for (int l = 0; l < libraries; l++) {
            t.append("library ").append(below(roomy + 1));
            if (below(3) > 0) t.append(' ').append(below(below(3) == 0 ? 21 : 5));
            t.append(';');
        }
        for (int w = 0; w < works; w++) t.append("work ").append(1 + below(sizes)).append(' ').append(below(keeps)).append(';');
        for (int l = 0; l < libraries; l++) for (int w = 0; w < works; w++) {
            if (below(10) < fill) t.append("holds ").append(l).append(' ').append(w).append(' ').append(1 + below(3)).append(';');
        }
        for (int l = 0; l < libraries; l++) for (int w = 0; w < works; w++) {
            if (below(12) == 0 && t.length() < 660) {
                t.append("promise ").append(l).append(' ').append(w).append(' ').append(1 + below(3)).append(' ')
                        .append(below(12)).append(';');
            }
        }
        if (random.nextBoolean()) t.append("store ").append(below(6)).append(';');
        return t.toString();
    }

    void put(String text) {
        int n = text.length();
        story.append("text <").append(text).append(">\n");
        Tape.feed(desk::feed, text);
        Tape.feed(model::feed, text);
        told[19] |= same("count(19)", () -> desk.count(19), () -> model.count(19)) > 0;
        same("desk(" + n + ")", () -> desk.desk(n), () -> model.desk(n));
        same("fault()", desk::fault, model::fault);
    }

    void act() {
        int l = about(libraries), w = about(works), a = about(4), b = about(20), c = about(libraries);
        int kind = below(12);
        made[kind]++;
        switch (kind) {
            case 0: case 1:
                same("own " + l + " " + w + " " + a, () -> desk.own(l, w, a), () -> model.own(l, w, a));
                break;
            case 2: {
                int y = about(61);
                same("promise " + l + " " + w + " " + a + " " + y, () -> desk.promise(l, w, a, y), () -> model.promise(l, w, a, y));
                break;
            }
            case 3: {
                int k = about(random.nextBoolean() ? 16 : 5);
                same("keep " + w + " " + k, () -> desk.keep(w, k), () -> model.keep(w, k));
                break;
            }
            case 4: {
                int what = about(2);
                same("room " + l + " " + what + " " + b, () -> desk.room(l, what, b), () -> model.room(l, what, b));
                break;
            }
            case 5:
                same("go " + l + " " + w, () -> desk.go(l, w), () -> model.go(l, w));
                break;
            case 6: case 7:
                same("give " + l + " " + c + " " + w, () -> desk.give(l, c, w), () -> model.give(l, c, w));
                break;
            case 8:
                same("send " + l + " " + w, () -> desk.send(l, w), () -> model.send(l, w));
                break;
            case 9:
                if (below(3) == 0) same("carry", desk::carry, model::carry);
                break;
            case 10: {
                int y = about(below(5) == 0 ? 10 : 3);
                same("years " + y, () -> desk.years(y), () -> model.years(y));
                break;
            }
            default:
                same("undo", desk::undo, model::undo);
        }
    }

    void notes() {
        int kind = below(9);
        made[12 + kind]++;
        switch (kind) {
            case 0: {
                int s = (int) answer(() -> desk.count(6));
                same("note " + s, () -> desk.note(s), () -> model.note(s));
                break;
            }
            case 1: {
                for (int i = below(9); i >= 0; i--) {
                    int s = below(2) == 0 ? below(3) - 1 : below(3) == 0 ? below(5) + 997 : below(1003) - 2;
                    same("note " + s, () -> desk.note(s), () -> model.note(s));
                    if (below(3) > 0) break;
                }
                break;
            }
            case 2: case 3:
                same("forget", () -> { desk.forget(); return 0; }, () -> { model.forget(); return 0; });
                break;
            case 4:
                same("image", () -> { desk.image(); return 0; }, () -> { model.image(); return 0; });
                break;
            case 5:
                same("restore", () -> desk.restore() ? 1 : 0, () -> model.restore() ? 1 : 0);
                break;
            default: {
                int seed = random.nextInt(), n = about(41);
                for (int what = -1; what <= 3; what++) {
                    int k = what;
                    same("drawn " + seed + " " + n + " " + k, () -> desk.drawn(seed, n, k), () -> model.drawn(seed, n, k));
                }
            }
        }
    }

    void askCounts(boolean dear) {
        for (int i = -1; i <= 28; i++) {
            int k = i;
            if (!dear && (i == 23 || i == 24)) continue;
            long due = same("count " + k, () -> desk.count(k), () -> model.count(k));
            if (i >= 0 && i < 28 && due > 0) told[i] = true;
        }
    }

    void askAll(boolean dear) {
        askCounts(dear);
        for (int i = -1; i <= libraries; i++) for (int j = -1; j <= 13; j++) {
            int l = i, k = j;
            same("library " + l + " " + k, () -> desk.library(l, k), () -> model.library(l, k));
        }
        for (int i = -1; i <= works; i++) for (int j = -1; j <= 11; j++) {
            int w = i, k = j;
            same("work " + w + " " + k, () -> desk.work(w, k), () -> model.work(w, k));
        }
        int l = about(libraries);
        for (int i = -1; i <= works; i++) for (int j = -1; j <= 7; j++) {
            int w = i, k = j;
            same("held " + l + " " + w + " " + k, () -> desk.held(l, w, k), () -> model.held(l, w, k));
        }
        for (int i = -1; i <= 1 << libraries; i++) {
            int set = i;
            same("lack " + set, () -> desk.lack(set), () -> model.lack(set));
        }
        for (int i = -2; i <= libraries; i++) {
            int k = i;
            same("order " + k, () -> desk.order(k), () -> model.order(k));
        }
    }

    /** One question alone, so that none is answered by what the one before it left. */
    void askOne() {
        int l = about(libraries), w = about(works);
        switch (below(6)) {
            case 0: {
                int k = below(28);
                if (libraries * works > 9 && (k == 23 || k == 24)) return;
                same("count " + k, () -> desk.count(k), () -> model.count(k));
                break;
            }
            case 1: {
                int k = below(13);
                same("library " + l + " " + k, () -> desk.library(l, k), () -> model.library(l, k));
                break;
            }
            case 2: {
                int k = below(11);
                same("work " + w + " " + k, () -> desk.work(w, k), () -> model.work(w, k));
                break;
            }
            case 3: {
                int k = below(7);
                same("held " + l + " " + w + " " + k, () -> desk.held(l, w, k), () -> model.held(l, w, k));
                break;
            }
            case 4: {
                int k = below(libraries + 1) - 1;
                same("order " + k, () -> desk.order(k), () -> model.order(k));
                break;
            }
            default: {
                int k = below(5);
                if (libraries * works > 9) return;
                if (k < 2) same("look " + k, () -> desk.look(k), () -> model.look(k));
                else same("fits " + (k - 2), () -> desk.fits(k - 2), () -> model.fits(k - 2));
            }
        }
    }

    /** Single questions, ACTS, notes and TEXTS, as they come. */
    void runMixed() {
        put(text(3, 3, 2 + below(9)));
        for (int i = 0; i < 120; i++) {
            int kind = below(20);
            if (kind == 0) put(text(3, 3, 2 + below(9)));
            else if (kind < 4) notes();
            else if (kind < 12) act();
            else askOne();
        }
    }

    void askNotes() {
        for (int i = -1; i <= 3; i++) {
            int k = i;
            same("fits " + k, () -> desk.fits(k), () -> model.fits(k));
        }
        for (int i = -1; i <= 2; i++) {
            int k = i;
            same("look " + k, () -> desk.look(k), () -> model.look(k));
        }
    }

    /** A TEXT with one sign, or one word, more, less or other. */
    String spoilt(String text) {
        String[] parts = {"library ", "work ", "holds ", "promise ", "store ", ";", " ", "\n", "0", "1", "99", "007", "x", "A", "\t", "-", "\u00e9"};
        StringBuilder t = new StringBuilder(text);
        for (int i = below(3); i >= 0; i--) {
            int at = below(t.length() + 1);
            int to = Math.min(t.length(), at + (random.nextBoolean() ? 1 : below(9)));
            String part = parts[below(parts.length)];
            if (below(3) > 0) t.delete(at, to);
            if (random.nextBoolean() && t.length() < 690) t.insert(Math.min(at, t.length()), part);
        }
        return t.toString();
    }

    void run(int mostLibraries, int mostWorks, int rounds, boolean dear) {
        put(text(mostLibraries, mostWorks, 2 + below(9)));
        for (int round = 0; round < rounds; round++) {
            if (round > 0) for (int i = below(8); i >= 0; i--) act();
            if (below(3) == 0) notes();
            if (below(3) > 0) askAll(dear); else askCounts(dear);
            if (dear && below(3) == 0) askNotes();
        }
    }

    void runText() {
        for (int i = 0; i < 20; i++) {
            put(spoilt(text(5, 6, below(8))));
            libraries = (int) answer(() -> desk.count(0));
            works = (int) answer(() -> desk.count(1));
            act();
            told[20] |= same("status", () -> desk.count(20), () -> model.count(20)) > 0;
            same("status", () -> desk.count(21), () -> model.count(21));
            same("acts", () -> desk.count(17), () -> model.count(17));
            same("copies", () -> desk.count(3), () -> model.count(3));
        }
    }

    /** Many ACTS, so that the oldest are no longer kept, and all UNDONE. */
    void runActs() {
        put(text(4, 4, 6));
        for (int i = 0; i < 120; i++) act();
        askCounts(false);
        notes();
        for (int i = 0; i < 60; i++) {
            same("undo", desk::undo, model::undo);
            if (i % 7 == 0) askCounts(false);
        }
        askAll(false);
        same("restore", () -> desk.restore() ? 1 : 0, () -> model.restore() ? 1 : 0);
        askAll(false);
        same("undo", desk::undo, model::undo);
        askCounts(false);
    }

    public static void main(String[] args) {
        int times = args.length > 0 ? Integer.parseInt(args[0]) : 1;
        long from = args.length > 1 ? Long.parseLong(args[1]) : 0;
        try {
            for (long i = 0; i < 150L * times; i++) new RandomRuns(from + i).run(2, 3, 8, true);
            for (long i = 0; i < 60L * times; i++) new RandomRuns(from + 10000000 + i).run(3, 3, 6, true);
            for (long i = 0; i < 25L * times; i++) new RandomRuns(from + 20000000 + i).run(5, 6, 3, false);
            for (long i = 0; i < 6L * times; i++) new RandomRuns(from + 30000000 + i).run(5, 6, 2, true);
            for (long i = 0; i < 400L * times; i++) new RandomRuns(from + 40000000 + i).runText();
            for (long i = 0; i < 12L * times; i++) new RandomRuns(from + 50000000 + i).runActs();
            for (long i = 0; i < 150L * times; i++) new RandomRuns(from + 60000000 + i).runMixed();
        } catch (IllegalStateException e) {
            System.out.println(e.getMessage());
            wrong++;
        }
        for (int i = 0; i < 28; i++) {
            if (!told[i] && wrong == 0) {
                wrong++;
                System.out.println("no run told anything in count(" + i + ")");
            }
        }
        System.out.println(wrong == 0 ? calls + " answers are as the model's" : "not all answers are as the model's");
        if (wrong != 0) System.exit(1);
    }
}
