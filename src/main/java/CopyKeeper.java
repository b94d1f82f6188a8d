import java.util.NoSuchElementException;

/** A desk for last copies. The words in capitals are those of the document. */
public final class CopyKeeper {
    public static final int NONE = -1;

    private static final int MOST_BYTES = 700;
    private static final int MOST_LIBRARIES = 5;
    private static final int MOST_WORKS = 6;
    private static final int MOST_PAIRS = MOST_LIBRARIES * MOST_WORKS;
    private static final int MOST_SETS = 1 << MOST_LIBRARIES;
    private static final int MOST_ROOM = 20;
    private static final int MOST_KEEP = 15;
    private static final int MOST_COPIES = 3;
    private static final int MOST_SIZE = 9;
    private static final int LAST_YEAR = 60;
    private static final int MOST_YEARS = 9;
    private static final int MOST_ACTS = 40;
    private static final int MOST_NOTED = 6;
    private static final int MOST_NOTED_SPACE = 999;
    private static final int MOST_DRAWN = 40;

    /* Where the cells of a Stock stand. */
    private static final int ROOM = 0;
    private static final int WISH = ROOM + MOST_LIBRARIES;
    private static final int SIZE = WISH + MOST_LIBRARIES;
    private static final int KEEP = SIZE + MOST_WORKS;
    private static final int STORED = KEEP + MOST_WORKS;
    private static final int HELD = STORED + MOST_WORKS;
    private static final int MUCH = HELD + MOST_PAIRS;
    private static final int UNTIL = MUCH + MOST_PAIRS;
    private static final int YEAR = UNTIL + MOST_PAIRS;
    private static final int WENT = YEAR + 1;
    private static final int STORE_ROOM = WENT + 1;
    private static final int LIBRARIES = STORE_ROOM + 1;
    private static final int WORKS = LIBRARIES + 1;
    private static final int CELLS = WORKS + 1;

    /* What STATUS counts. */
    private static final int REFUSED_TEXT = 0;
    private static final int REFUSED_ACT = 1;
    private static final int REFUSED_NOTE = 2;

    private final byte[] tape;
    private int tapeLength;
    private int faultPlace;
    private final State now;
    private final State kept;
    private boolean hasImage;
    private final Stock draft;
    private final TextReader reader;
    private final Scales scales;
    private final Plan plan;
    private boolean planIsFresh;
    private final Outlook outlook;
    private final Turns turns;
    private final Help help;
    private final Fits guesses;
    private final Draws draws;

    public CopyKeeper() {
        tape = new byte[MOST_BYTES];
        tapeLength = 0;
        faultPlace = NONE;
        now = new State();
        kept = new State();
        hasImage = false;
        draft = new Stock();
        reader = new TextReader();
        scales = new Scales();
        plan = new Plan(scales);
        planIsFresh = false;
        outlook = new Outlook(scales);
        turns = new Turns(scales);
        help = new Help(scales);
        guesses = new Fits(scales);
        draws = new Draws(new Plan(scales));
    }

    public int feed(int a, int b, int c, int d, int e) {
        if (tapeLength > MOST_BYTES - 20) {
            return NONE;
        }
        putOnTape(a);
        putOnTape(b);
        putOnTape(c);
        putOnTape(d);
        putOnTape(e);
        return tapeLength;
    }

    private void putOnTape(int number) {
        for (int shift = 24; shift >= 0 && tapeLength < MOST_BYTES; shift -= 8) {
            tape[tapeLength] = (byte) (number >>> shift);
            tapeLength++;
        }
    }

    public int desk(int n) throws IllegalArgumentException {
        if (n < 0 || n > tapeLength) {
            throw new IllegalArgumentException();
        }
        tapeLength = 0;
        int found = reader.read(tape, n, draft);
        if (found != 0) {
            faultPlace = reader.place;
            now.refused[REFUSED_TEXT]++;
            return found;
        }
        faultPlace = NONE;
        now.stock.copyFrom(draft);
        now.acts.clear();
        now.notedSize = 0;
        hasImage = false;
        planIsFresh = false;
        return 0;
    }

    public int fault() {
        return faultPlace;
    }

    public int count(int what) throws NoSuchElementException {
        switch (what) {
            case 0: case 1: case 2: case 3: case 4:
            case 15: case 16: case 25: case 26:
                return countInStock(what);
            case 5: case 6: case 7: case 8:
                return countOfPlan(what);
            case 9: case 10: case 11:
                return countOfShortage(what);
            case 12:
                return outlook.late(now.stock);
            case 13:
                outlook.findInTheWay(now.stock);
                return outlook.inTheWay;
            case 14:
                outlook.findInTheWay(now.stock);
                return outlook.firstInTheWay;
            case 17: case 18: case 19:
            case 20: case 21: case 22:
                return countOfDesk(what);
            case 23:
                help.find(now.stock);
                return help.fewest;
            case 24:
                help.find(now.stock);
                return help.first;
            case 27:
                turns.findOrders(now.stock);
                return turns.bestSpace;
            default:
                throw new NoSuchElementException();
        }
    }

    private int countInStock(int what) {
        Stock stock = now.stock;
        switch (what) {
            case 0:
                return stock.libraries();
            case 1:
                return stock.works();
            case 2:
                return stock.cell[YEAR];
            case 3:
                return stock.copiesHeld();
            case 4:
                return stock.cell[WENT];
            case 15:
                return stock.lastWorks();
            case 16:
                return stock.shortWorks();
            case 25:
                return stock.cell[STORE_ROOM];
            default:
                return stock.copiesStored();
        }
    }

    private int countOfPlan(int what) {
        if (what == 8) {
            refreshPlan();
            return plan.changes(now.stock);
        }
        scales.load(now.stock);
        int space = scales.space(0);
        switch (what) {
            case 5:
                return space == NONE ? 0 : 1;
            case 6:
                return space;
            default:
                return space == NONE ? NONE : scales.copiesOfPlan();
        }
    }

    private int countOfShortage(int what) {
        scales.load(now.stock);
        int worst = scales.worstSet();
        switch (what) {
            case 9:
                return scales.lackOf(worst);
            case 10:
                return worst;
            default:
                return scales.scarceWorks(worst);
        }
    }

    private int countOfDesk(int what) {
        switch (what) {
            case 17:
                return now.acts.size;
            case 18:
                return now.notedSize;
            case 19:
                return tapeLength;
            case 20:
                return now.refused[REFUSED_TEXT];
            case 21:
                return now.refused[REFUSED_ACT];
            default:
                return now.refused[REFUSED_NOTE];
        }
    }

    public int library(int library, int what) throws NoSuchElementException {
        Stock stock = now.stock;
        if (!stock.isLibrary(library)) {
            throw new NoSuchElementException();
        }
        switch (what) {
            case 0:
                return stock.roomOf(library);
            case 1:
                return stock.wishOf(library);
            case 2:
                return stock.copiesIn(library);
            case 3:
                return stock.needOf(library);
            case 4:
                refreshPlan();
                return plan.exists ? plan.copiesFrom(library) : NONE;
            case 5:
                refreshPlan();
                return plan.exists ? plan.wonBy(library, stock) : NONE;
            case 6:
                return outlook.tighter(stock, library);
            case 7:
                return stock.scarceWithout(library);
            case 8:
                return stock.lostWithout(library);
            case 9:
                turns.goRound(stock, library);
                return turns.space;
            case 10:
                turns.goRound(stock, library);
                return turns.lacking;
            case 11:
                return outlook.apart(stock, library);
            case 12:
                return outlook.priceOfLibrary(stock, library);
            default:
                throw new NoSuchElementException();
        }
    }

    public int work(int work, int what) throws NoSuchElementException {
        Stock stock = now.stock;
        if (!stock.isWork(work)) {
            throw new NoSuchElementException();
        }
        switch (what) {
            case 0:
                return stock.sizeOf(work);
            case 1:
                return stock.keepOf(work);
            case 2:
                return stock.copiesOf(work);
            case 3:
                return stock.spareOf(work);
            case 4:
                return stock.shortOf(work);
            case 5:
                refreshPlan();
                return plan.exists ? plan.copiesOf(work) : NONE;
            case 6:
                return outlook.stricter(stock, work);
            case 7:
                return stock.holdersOf(work);
            case 8:
                return stock.storedOf(work);
            case 9:
                return stock.safe(work);
            case 10:
                return outlook.priceOfWork(stock, work);
            default:
                throw new NoSuchElementException();
        }
    }

    public int held(int library, int work, int what) throws NoSuchElementException {
        Stock stock = now.stock;
        if (!stock.isPair(library, work)) {
            throw new NoSuchElementException();
        }
        switch (what) {
            case 0:
                return stock.heldIn(library, work);
            case 1:
                return stock.muchOf(library, work);
            case 2:
                return stock.muchOf(library, work) == 0 ? NONE : stock.untilOf(library, work);
            case 3:
                return stock.promiseCounts(library, work) ? 1 : 0;
            case 4:
                return stock.offerOf(library, work);
            case 5:
                refreshPlan();
                return plan.exists ? plan.taken[pairOf(library, work)] : NONE;
            case 6:
                return stock.whyNot(library, work);
            default:
                throw new NoSuchElementException();
        }
    }

    public int lack(int set) throws IllegalArgumentException {
        scales.load(now.stock);
        if (set < 0 || set >= scales.sets) {
            throw new IllegalArgumentException();
        }
        return scales.lackOf(set);
    }

    public int order(int i) throws NoSuchElementException {
        turns.findOrders(now.stock);
        if (i == NONE) {
            return turns.orders;
        }
        if (i < 0 || i >= now.stock.libraries() || turns.orders == 0) {
            throw new NoSuchElementException();
        }
        return turns.best[i];
    }

    public int own(int library, int work, int copies) {
        Stock stock = now.stock;
        if (!stock.isPair(library, work) || copies < 0 || copies > MOST_COPIES) {
            return refuseAct();
        }
        int before = stock.heldIn(library, work);
        if (copies == before) {
            return refuseAct();
        }
        act(HELD + pairOf(library, work), copies, NONE, 0);
        return before;
    }

    public int promise(int library, int work, int much, int year) {
        Stock stock = now.stock;
        if (!stock.isPair(library, work) || much < 0 || much > MOST_COPIES) {
            return refuseAct();
        }
        int before = stock.muchOf(library, work);
        boolean can = much == 0 ? before > 0 : year >= 0 && year <= LAST_YEAR;
        if (!can) {
            return refuseAct();
        }
        int pair = pairOf(library, work);
        act(MUCH + pair, much, UNTIL + pair, much == 0 ? 0 : year);
        return before;
    }

    public int keep(int work, int copies) {
        Stock stock = now.stock;
        if (!stock.isWork(work) || copies < 0 || copies > MOST_KEEP) {
            return refuseAct();
        }
        int before = stock.keepOf(work);
        act(KEEP + work, copies, NONE, 0);
        return before;
    }

    public int room(int library, int what, int copies) {
        boolean known = now.stock.isLibrary(library) && (what == 0 || what == 1);
        if (!known || copies < 0 || copies > MOST_ROOM) {
            return refuseAct();
        }
        int place = (what == 0 ? ROOM : WISH) + library;
        int before = now.stock.cell[place];
        act(place, copies, NONE, 0);
        return before;
    }

    public int go(int library, int work) {
        Stock stock = now.stock;
        if (!stock.isPair(library, work) || !stock.mayGo(library, work)) {
            return refuseAct();
        }
        int place = HELD + pairOf(library, work);
        act(place, stock.cell[place] - 1, WENT, stock.cell[WENT] + 1);
        return stock.spareOf(work);
    }

    public int give(int library, int to, int work) {
        Stock stock = now.stock;
        if (!stock.isPair(library, work) || !stock.isLibrary(to) || !stock.mayGive(library, to, work)) {
            return refuseAct();
        }
        int from = HELD + pairOf(library, work);
        int there = HELD + pairOf(to, work);
        act(from, stock.cell[from] - 1, there, stock.cell[there] + 1);
        return stock.cell[there];
    }

    public int send(int library, int work) {
        Stock stock = now.stock;
        if (!stock.isPair(library, work) || !stock.maySend(library, work)) {
            return refuseAct();
        }
        int from = HELD + pairOf(library, work);
        int there = STORED + work;
        act(from, stock.cell[from] - 1, there, stock.cell[there] + 1);
        return stock.cell[there];
    }

    public int carry() {
        refreshPlan();
        if (!plan.exists) {
            return refuseAct();
        }
        Stock stock = now.stock;
        long packed = plan.packed();
        int copies = plan.copies;
        now.acts.add(WENT, stock.cell[WENT], NONE, 0, packed);
        stock.withdraw(packed);
        stock.cell[WENT] += copies;
        planIsFresh = false;
        return copies;
    }

    public int years(int many) {
        int year = now.stock.cell[YEAR];
        if (many < 1 || many > MOST_YEARS || year + many > LAST_YEAR) {
            return refuseAct();
        }
        act(YEAR, year + many, NONE, 0);
        return year + many;
    }

    public int undo() {
        if (now.acts.size == 0) {
            return NONE;
        }
        now.acts.undoLast(now.stock);
        planIsFresh = false;
        return now.acts.size;
    }

    public int note(int space) {
        if (now.notedSize >= MOST_NOTED || space < NONE || space > MOST_NOTED_SPACE) {
            now.refused[REFUSED_NOTE]++;
            return NONE;
        }
        now.addNoted(space);
        return now.notedSize;
    }

    public int fits(int what) throws NoSuchElementException {
        switch (what) {
            case 0:
                guesses.find(now);
                return guesses.many;
            case 1:
                guesses.find(now);
                return guesses.first;
            case 2:
                scales.load(now.stock);
                return now.allNotedAre(scales.space(0)) ? 1 : 0;
            default:
                throw new NoSuchElementException();
        }
    }

    public int look(int what) throws NoSuchElementException {
        if (what != 0 && what != 1) {
            throw new NoSuchElementException();
        }
        guesses.find(now);
        guesses.lookNext(now.stock);
        return what == 0 ? guesses.next : guesses.unlike;
    }

    public void forget() {
        now.notedSize = 0;
    }

    public int drawn(int seed, int n, int what) throws NoSuchElementException, IllegalArgumentException {
        if (what < 0 || what > 2) {
            throw new NoSuchElementException();
        }
        if (n < 0 || n > MOST_DRAWN) {
            throw new IllegalArgumentException();
        }
        draws.run(now.stock, seed, n);
        switch (what) {
            case 0:
                return draws.trial.copiesHeld();
            case 1:
                return draws.trial.cell[WENT] - now.stock.cell[WENT];
            default:
                return draws.plans;
        }
    }

    public void image() {
        kept.copyFrom(now);
        hasImage = true;
    }

    public boolean restore() {
        if (!hasImage) {
            return false;
        }
        now.copyFrom(kept);
        planIsFresh = false;
        return true;
    }

    private int refuseAct() {
        now.refused[REFUSED_ACT]++;
        return NONE;
    }

    /** Puts a value into one cell, or into two (NONE: there is no second), as one ACT. */
    private void act(int place, int value, int second, int secondValue) {
        int[] cell = now.stock.cell;
        if (place < 0 || place >= CELLS || second >= CELLS) {
            return;
        }
        now.acts.add(place, cell[place], second, second < 0 ? 0 : cell[second], 0L);
        cell[place] = value;
        if (second >= 0) {
            cell[second] = secondValue;
        }
        planIsFresh = false;
    }

    private void refreshPlan() {
        if (!planIsFresh) {
            plan.make(now.stock);
            planIsFresh = true;
        }
    }

    private static int pairOf(int library, int work) {
        return library * MOST_WORKS + work;
    }

    /** All that an IMAGE keeps: the Stock, ACTS, what is NOTED, STATUS. */
    private static final class State {
        final Stock stock;
        final Acts acts;
        final int[] noted;
        int notedSize;
        final int[] refused;

        State() {
            stock = new Stock();
            acts = new Acts();
            noted = new int[MOST_NOTED];
            notedSize = 0;
            refused = new int[3];
        }

        void copyFrom(State other) {
            stock.copyFrom(other.stock);
            acts.copyFrom(other.acts);
            System.arraycopy(other.noted, 0, noted, 0, MOST_NOTED);
            notedSize = other.notedSize;
            System.arraycopy(other.refused, 0, refused, 0, refused.length);
        }

        void addNoted(int space) {
            if (notedSize < MOST_NOTED) {
                noted[notedSize] = space;
                notedSize++;
            }
        }

        boolean allNotedAre(int space) {
            for (int i = 0; i < notedSize; i++) {
                if (noted[i] != space) {
                    return false;
                }
            }
            return true;
        }
    }

    /** LIBRARIES, WORKS, THE STORE and YEAR: one row of cells, so that an ACT is undone by putting cells back. */
    private static final class Stock {
        final int[] cell;

        Stock() {
            cell = new int[CELLS];
        }

        void clear() {
            for (int i = 0; i < CELLS; i++) {
                cell[i] = 0;
            }
        }

        void copyFrom(Stock other) {
            System.arraycopy(other.cell, 0, cell, 0, CELLS);
        }

        int libraries() {
            return cell[LIBRARIES];
        }

        int works() {
            return cell[WORKS];
        }

        void addLibrary(int room, int wish) {
            int library = cell[LIBRARIES];
            if (library >= 0 && library < MOST_LIBRARIES) {
                cell[ROOM + library] = room;
                cell[WISH + library] = wish;
                cell[LIBRARIES]++;
            }
        }

        void addWork(int size, int keep) {
            int work = cell[WORKS];
            if (work >= 0 && work < MOST_WORKS) {
                cell[SIZE + work] = size;
                cell[KEEP + work] = keep;
                cell[WORKS]++;
            }
        }

        boolean isLibrary(int library) {
            return library >= 0 && library < cell[LIBRARIES];
        }

        boolean isWork(int work) {
            return work >= 0 && work < cell[WORKS];
        }

        boolean isPair(int library, int work) {
            return isLibrary(library) && isWork(work);
        }

        int roomOf(int library) {
            return cell[ROOM + library];
        }

        int wishOf(int library) {
            return cell[WISH + library];
        }

        int sizeOf(int work) {
            return cell[SIZE + work];
        }

        int keepOf(int work) {
            return cell[KEEP + work];
        }

        int storedOf(int work) {
            return cell[STORED + work];
        }

        int heldIn(int library, int work) {
            return cell[HELD + library * MOST_WORKS + work];
        }

        int muchOf(int library, int work) {
            return cell[MUCH + library * MOST_WORKS + work];
        }

        int untilOf(int library, int work) {
            return cell[UNTIL + library * MOST_WORKS + work];
        }

        boolean promiseCounts(int library, int work) {
            int pair = library * MOST_WORKS + work;
            return cell[MUCH + pair] > 0 && cell[YEAR] <= cell[UNTIL + pair];
        }

        int offerOf(int library, int work) {
            int rest = heldIn(library, work);
            if (promiseCounts(library, work)) {
                rest -= muchOf(library, work);
            }
            return rest > 0 ? rest : 0;
        }

        int copiesIn(int library) {
            int copies = 0;
            for (int work = 0; work < cell[WORKS]; work++) {
                copies += cell[HELD + library * MOST_WORKS + work];
            }
            return copies;
        }

        int copiesHeld() {
            int copies = 0;
            for (int library = 0; library < cell[LIBRARIES]; library++) {
                copies += copiesIn(library);
            }
            return copies;
        }

        int copiesStored() {
            int copies = 0;
            for (int work = 0; work < cell[WORKS]; work++) {
                copies += storedOf(work);
            }
            return copies;
        }

        int copiesOf(int work) {
            int copies = cell[STORED + work];
            for (int library = 0; library < cell[LIBRARIES]; library++) {
                copies += cell[HELD + library * MOST_WORKS + work];
            }
            return copies;
        }

        int spareOf(int work) {
            return Math.max(0, copiesOf(work) - keepOf(work));
        }

        int shortOf(int work) {
            return Math.max(0, keepOf(work) - copiesOf(work));
        }

        int needOf(int library) {
            return Math.max(0, copiesIn(library) - roomOf(library));
        }

        boolean mayGo(int library, int work) {
            return offerOf(library, work) > 0 && spareOf(work) > 0;
        }

        int whyNot(int library, int work) {
            if (heldIn(library, work) == 0) {
                return 1;
            }
            if (offerOf(library, work) == 0) {
                return 2;
            }
            return spareOf(work) == 0 ? 3 : 0;
        }

        boolean hasRoom(int library) {
            return copiesIn(library) < roomOf(library);
        }

        boolean mayGive(int library, int to, int work) {
            return library != to && offerOf(library, work) > 0 && heldIn(to, work) < MOST_COPIES && hasRoom(to);
        }

        boolean maySend(int library, int work) {
            return offerOf(library, work) > 0 && copiesStored() < cell[STORE_ROOM];
        }

        void moveOne(int library, int to, int work) {
            cell[HELD + pairOf(library, work)]--;
            cell[HELD + pairOf(to, work)]++;
        }

        int holdersOf(int work) {
            int holders = 0;
            for (int library = 0; library < cell[LIBRARIES]; library++) {
                if (heldIn(library, work) > 0) {
                    holders |= 1 << library;
                }
            }
            return holders;
        }

        int lastWorks() {
            int last = 0;
            for (int work = 0; work < cell[WORKS]; work++) {
                if (copiesOf(work) == 1) {
                    last |= 1 << work;
                }
            }
            return last;
        }

        int shortWorks() {
            int found = 0;
            for (int work = 0; work < cell[WORKS]; work++) {
                if (shortOf(work) > 0) {
                    found |= 1 << work;
                }
            }
            return found;
        }

        int scarceWithout(int library) {
            int scarce = 0;
            for (int work = 0; work < cell[WORKS]; work++) {
                if (copiesOf(work) - heldIn(library, work) < keepOf(work)) {
                    scarce |= 1 << work;
                }
            }
            return scarce;
        }

        int lostWithout(int library) {
            int lost = 0;
            for (int work = 0; work < cell[WORKS]; work++) {
                int copies = copiesOf(work);
                if (copies > 0 && copies == heldIn(library, work)) {
                    lost |= 1 << work;
                }
            }
            return lost;
        }

        /** SAFE: those that hold the most of it go first, as the fewest are asked for. */
        int safe(int work) {
            int copies = copiesOf(work);
            int gone = 0;
            for (int many = MOST_COPIES; many > 0; many--) {
                for (int library = 0; library < cell[LIBRARIES]; library++) {
                    if (copies < keepOf(work)) {
                        return gone;
                    }
                    if (heldIn(library, work) == many) {
                        copies -= many;
                        gone++;
                    }
                }
            }
            return copies < keepOf(work) ? gone : NONE;
        }

        boolean promiseEndsWith(int year) {
            for (int pair = 0; pair < MOST_PAIRS; pair++) {
                if (cell[MUCH + pair] > 0 && cell[UNTIL + pair] == year) {
                    return true;
                }
            }
            return false;
        }

        /** Two bits a pair tell how many copies. */
        void withdraw(long packed) {
            for (int pair = 0; pair < MOST_PAIRS; pair++) {
                cell[HELD + pair] -= (int) (packed >>> (2 * pair)) & 3;
            }
        }

        void putBack(long packed) {
            for (int pair = 0; pair < MOST_PAIRS; pair++) {
                cell[HELD + pair] += (int) (packed >>> (2 * pair)) & 3;
            }
        }
    }

    /** ACTS that are kept, in a ring: each one's cells with what was in them, and what a PLAN took. */
    private static final class Acts {
        final int[] place;
        final int[] before;
        final long[] taken;
        int first;
        int size;

        Acts() {
            place = new int[2 * MOST_ACTS];
            before = new int[2 * MOST_ACTS];
            taken = new long[MOST_ACTS];
        }

        void clear() {
            first = 0;
            size = 0;
        }

        void copyFrom(Acts other) {
            System.arraycopy(other.place, 0, place, 0, 2 * MOST_ACTS);
            System.arraycopy(other.before, 0, before, 0, 2 * MOST_ACTS);
            System.arraycopy(other.taken, 0, taken, 0, MOST_ACTS);
            first = other.first;
            size = other.size;
        }

        void add(int placeOne, int beforeOne, int placeTwo, int beforeTwo, long plan) {
            if (size >= MOST_ACTS) {
                first = first + 1 < MOST_ACTS ? first + 1 : 0;
                size = MOST_ACTS - 1;
            }
            int at = slot(size);
            place[2 * at] = placeOne;
            before[2 * at] = beforeOne;
            place[2 * at + 1] = placeTwo;
            before[2 * at + 1] = beforeTwo;
            taken[at] = plan;
            size++;
        }

        void undoLast(Stock stock) {
            if (size <= 0) {
                return;
            }
            size--;
            int at = slot(size);
            putBack(stock, 2 * at);
            putBack(stock, 2 * at + 1);
            stock.putBack(taken[at]);
        }

        private int slot(int age) {
            int at = first + age;
            return at < MOST_ACTS ? at : at - MOST_ACTS;
        }

        private void putBack(Stock stock, int entry) {
            int cell = place[entry];
            if (cell >= 0 && cell < CELLS) {
                stock.cell[cell] = before[entry];
            }
        }
    }

    /** Reads a TEXT into a Stock, TOKEN by TOKEN, up to the first FAULT. */
    private static final class TextReader {
        private static final int END = 0;
        private static final int WORD = 1;
        private static final int NUMBER = 2;
        private static final int SIGN = 3;
        private static final int OTHER = 4;

        private byte[] text;
        private int length;
        private Stock stock;
        private boolean storeTold;
        private int kind;
        private int start;
        private int end;
        private int fault;
        int place;

        TextReader() {
            text = new byte[0];
            place = NONE;
        }

        /** 0, or the FAULT, whose place is then in 'place'. */
        int read(byte[] bytes, int many, Stock into) {
            text = bytes;
            length = Math.min(many, bytes.length);
            stock = into;
            stock.clear();
            storeTold = false;
            fault = 0;
            place = NONE;
            end = 0;
            next();
            for (int i = 0; i <= length && fault == 0 && kind != END; i++) {
                readClause();
            }
            return fault;
        }

        private void refuse(int number) {
            if (fault == 0) {
                fault = number;
                place = start;
            }
        }

        private int byteAt(int at) {
            return at >= 0 && at < length ? text[at] & 255 : NONE;
        }

        private static boolean isLetter(int sign) {
            return sign >= 'a' && sign <= 'z';
        }

        private static boolean isDigit(int sign) {
            return sign >= '0' && sign <= '9';
        }

        private void next() {
            start = end;
            while (start < length && (byteAt(start) == ' ' || byteAt(start) == '\n')) {
                start++;
            }
            end = start + 1;
            int sign = byteAt(start);
            if (start >= length) {
                end = start;
                kind = END;
            } else if (isLetter(sign)) {
                kind = WORD;
                while (end < length && isLetter(byteAt(end))) {
                    end++;
                }
            } else if (isDigit(sign)) {
                kind = NUMBER;
                while (end < length && isDigit(byteAt(end))) {
                    end++;
                }
            } else {
                kind = sign == ';' ? SIGN : OTHER;
            }
        }

        private boolean wordIs(String word) {
            if (kind != WORD || end - start != word.length()) {
                return false;
            }
            for (int i = 0; i < word.length(); i++) {
                if (byteAt(start + i) != word.charAt(i)) {
                    return false;
                }
            }
            return true;
        }

        private void readClause() {
            if (wordIs("library")) {
                readLibraryClause();
            } else if (wordIs("work")) {
                readWorkClause();
            } else if (wordIs("holds")) {
                readHoldsClause();
            } else if (wordIs("promise")) {
                readPromiseClause();
            } else if (wordIs("store")) {
                readStoreClause();
            } else {
                refuse(1);
            }
        }

        private void readLibraryClause() {
            if (stock.libraries() >= MOST_LIBRARIES) {
                refuse(2);
                return;
            }
            next();
            int room = readNumber(0, MOST_ROOM);
            int wish = MOST_ROOM;
            if (fault == 0 && kind == NUMBER) {
                wish = readNumber(0, MOST_ROOM);
            }
            readSign();
            stock.addLibrary(room, wish);
        }

        private void readWorkClause() {
            if (stock.works() >= MOST_WORKS) {
                refuse(2);
                return;
            }
            next();
            int size = readNumber(1, MOST_SIZE);
            int keep = readNumber(0, MOST_KEEP);
            readSign();
            stock.addWork(size, keep);
        }

        private void readHoldsClause() {
            next();
            int library = readNumberOf(MOST_LIBRARIES, stock.libraries(), NONE);
            int work = readNumberOf(MOST_WORKS, stock.works(), HELD + library * MOST_WORKS);
            int copies = readNumber(1, MOST_COPIES);
            readSign();
            if (fault == 0) {
                stock.cell[HELD + library * MOST_WORKS + work] = copies;
            }
        }

        private void readPromiseClause() {
            next();
            int library = readNumberOf(MOST_LIBRARIES, stock.libraries(), NONE);
            int work = readNumberOf(MOST_WORKS, stock.works(), MUCH + library * MOST_WORKS);
            int much = readNumber(1, MOST_COPIES);
            int year = readNumber(0, LAST_YEAR);
            readSign();
            if (fault == 0) {
                stock.cell[MUCH + library * MOST_WORKS + work] = much;
                stock.cell[UNTIL + library * MOST_WORKS + work] = year;
            }
        }

        private void readStoreClause() {
            if (storeTold) {
                refuse(4);
                return;
            }
            storeTold = true;
            next();
            int room = readNumber(0, MOST_ROOM);
            readSign();
            stock.cell[STORE_ROOM] = room;
        }

        /** A LIBRARY, or a WORK: 'row' are the cells that are above 0 for a WORK that is told already (NONE: none are). */
        private int readNumberOf(int most, int told, int row) {
            int number = checkNumber(0, most - 1);
            if (fault == 0 && number >= told) {
                refuse(3);
            }
            if (fault == 0 && row >= 0 && row + number < CELLS && stock.cell[row + number] > 0) {
                refuse(4);
            }
            if (fault == 0) {
                next();
            }
            return fault == 0 ? number : 0;
        }

        private int readNumber(int least, int most) {
            int number = checkNumber(least, most);
            if (fault == 0) {
                next();
            }
            return number;
        }

        private int checkNumber(int least, int most) {
            if (fault != 0) {
                return least;
            }
            if (kind != NUMBER) {
                refuse(1);
                return least;
            }
            int number = 0;
            for (int at = start; at < end && at < start + 2; at++) {
                number = 10 * number + byteAt(at) - '0';
            }
            if (end - start > 2 || number < least || number > most) {
                refuse(2);
                return least;
            }
            return number;
        }

        private void readSign() {
            if (fault != 0) {
                return;
            }
            if (kind != SIGN) {
                refuse(1);
                return;
            }
            next();
        }
    }

    /**
     * What a PLAN depends on: OFFERS, SPARE, NEED and the most that each LIBRARY withdraws, with sums for
     * each set of LIBRARIES. Any of these may be set otherwise, to see what were then.
     */
    private static final class Scales {
        private static final int MANY = 1000;

        final int[] offer;
        final int[] spare;
        final int[] need;
        final int[] limit;
        final int[] size;
        final int[] bySize;
        final int[] offers;
        final int[] can;
        final int[] needs;
        final int[] limits;
        final int[] most;
        int libraries;
        int works;
        int sets;

        Scales() {
            offer = new int[MOST_PAIRS];
            spare = new int[MOST_WORKS];
            need = new int[MOST_LIBRARIES];
            limit = new int[MOST_LIBRARIES];
            size = new int[MOST_WORKS];
            bySize = new int[MOST_WORKS];
            offers = new int[MOST_WORKS * MOST_SETS];
            can = new int[MOST_WORKS * MOST_SETS];
            needs = new int[MOST_SETS];
            limits = new int[MOST_SETS];
            most = new int[MOST_WORKS];
            sets = 1;
        }

        void load(Stock stock) {
            libraries = Math.min(stock.libraries(), MOST_LIBRARIES);
            works = Math.min(stock.works(), MOST_WORKS);
            sets = 1 << libraries;
            for (int library = 0; library < libraries; library++) {
                need[library] = stock.needOf(library);
                limit[library] = Math.max(need[library], stock.wishOf(library));
                for (int work = 0; work < works; work++) {
                    offer[library * MOST_WORKS + work] = stock.offerOf(library, work);
                }
            }
            sumNeeds();
            for (int work = 0; work < works; work++) {
                size[work] = stock.sizeOf(work);
                spare[work] = stock.spareOf(work);
                sumOffers(work);
                rank(work);
            }
        }

        /** Puts a WORK behind those of its SIZE or a greater one among the WORKS before it. */
        private void rank(int work) {
            int at = work;
            while (at > 0 && size[bySize[at - 1]] < size[work]) {
                bySize[at] = bySize[at - 1];
                at--;
            }
            bySize[at] = work;
        }

        private void sumNeeds() {
            needs[0] = 0;
            limits[0] = 0;
            for (int library = 0; library < libraries; library++) {
                int bit = 1 << library;
                for (int set = 0; set < bit; set++) {
                    needs[bit + set] = needs[set] + need[library];
                    limits[bit + set] = limits[set] + limit[library];
                }
            }
        }

        private void sumOffers(int work) {
            int row = work * MOST_SETS;
            int most = spare[work];
            offers[row] = 0;
            can[row] = 0;
            for (int library = 0; library < libraries; library++) {
                int bit = 1 << library;
                int more = offer[library * MOST_WORKS + work];
                for (int set = 0; set < bit; set++) {
                    int sum = offers[row + set] + more;
                    offers[row + bit + set] = sum;
                    can[row + bit + set] = sum < most ? sum : most;
                }
            }
        }

        void setSpare(int work, int copies) {
            spare[work] = Math.max(0, copies);
            sumOffers(work);
        }

        void setOffer(int library, int work, int copies) {
            offer[library * MOST_WORKS + work] = copies;
            sumOffers(work);
        }

        void setLibrary(int library, int least, int greatest) {
            need[library] = least;
            limit[library] = greatest;
            sumNeeds();
        }

        int allOffers(int work) {
            return offers[work * MOST_SETS + sets - 1];
        }

        int canTake(int set) {
            int copies = 0;
            for (int work = 0; work < works; work++) {
                copies += can[work * MOST_SETS + set];
            }
            return copies;
        }

        int lackOf(int set) {
            return needs[set] - canTake(set);
        }

        boolean hasPlan() {
            for (int set = 1; set < sets; set++) {
                if (lackOf(set) > 0) {
                    return false;
                }
            }
            return true;
        }

        int worstSet() {
            int worst = 0;
            int greatest = 0;
            for (int set = 1; set < sets; set++) {
                int lack = lackOf(set);
                boolean fewer = Integer.bitCount(set) < Integer.bitCount(worst);
                if (lack > greatest || lack == greatest && fewer) {
                    worst = set;
                    greatest = lack;
                }
            }
            return worst;
        }

        int scarceWorks(int set) {
            int scarce = 0;
            for (int work = 0; work < works; work++) {
                if (offers[work * MOST_SETS + set] > spare[work]) {
                    scarce |= 1 << work;
                }
            }
            return scarce;
        }

        /**
         * SPACE of THE PLAN, or NONE. What can go of the WORKS of a SIZE and above is a flow, whose most is
         * its least cut; one PLAN reaches all these at once (the flows are a matroid's), and each NEED too.
         * LIBRARIES before 'from' must have no OFFERS, NEED or limit: only sets of the others are looked at.
         */
        int space(int from) {
            for (int i = 0; i < works; i++) {
                most[i] = MANY;
            }
            int step = 1 << from;
            int all = limits[sets - 1];
            for (int set = 0; set < sets; set += step) {
                int cut = all - limits[set];
                int enough = cut + needs[set];
                for (int i = 0; i < works; i++) {
                    cut += can[bySize[i] * MOST_SETS + set];
                    if (cut < most[i]) {
                        most[i] = cut;
                    }
                }
                if (cut < enough) {
                    return NONE;
                }
            }
            return weighMost();
        }

        private int weighMost() {
            int space = 0;
            int lighter = 0;
            for (int i = works - 1; i >= 0; i--) {
                int heavy = size[bySize[i]];
                space += (heavy - lighter) * most[i];
                lighter = heavy;
            }
            return space;
        }

        /** Behind space(0), if that wasn't NONE: so many copies go in THE PLAN (all of one SPACE take as many). */
        int copiesOfPlan() {
            return works == 0 ? 0 : most[works - 1];
        }
    }

    /** THE PLAN. */
    private static final class Plan {
        private final Scales scales;
        final int[] taken;
        boolean exists;
        int copies;

        Plan(Scales scales) {
            this.scales = scales;
            taken = new int[MOST_PAIRS];
        }

        void make(Stock stock) {
            copies = 0;
            for (int pair = 0; pair < MOST_PAIRS; pair++) {
                taken[pair] = 0;
            }
            scales.load(stock);
            int space = scales.space(0);
            exists = space != NONE;
            if (!exists) {
                return;
            }
            for (int library = 0; library < scales.libraries; library++) {
                for (int work = 0; work < scales.works; work++) {
                    int most = takeMost(library, work, space);
                    taken[pairOf(library, work)] = most;
                    copies += most;
                    space -= most * scales.size[work];
                }
                scales.setLibrary(library, 0, 0);
            }
        }

        /** The most copies with which the rest can still win what is left of SPACE; the rest stands in scales. */
        private int takeMost(int library, int work, int space) {
            int spare = scales.spare[work];
            int need = scales.need[library];
            int limit = scales.limit[library];
            int most = Math.min(scales.offer[pairOf(library, work)], Math.min(spare, limit));
            scales.offer[pairOf(library, work)] = 0;
            for (int many = most; many > 0; many--) {
                scales.setSpare(work, spare - many);
                scales.setLibrary(library, Math.max(0, need - many), limit - many);
                int rest = scales.space(library);
                if (rest != NONE && rest + many * scales.size[work] == space) {
                    return many;
                }
            }
            scales.setSpare(work, spare);
            scales.setLibrary(library, need, limit);
            return 0;
        }

        int copiesFrom(int library) {
            int many = 0;
            for (int work = 0; work < MOST_WORKS; work++) {
                many += taken[pairOf(library, work)];
            }
            return many;
        }

        int copiesOf(int work) {
            int many = 0;
            for (int library = 0; library < MOST_LIBRARIES; library++) {
                many += taken[pairOf(library, work)];
            }
            return many;
        }

        int wonBy(int library, Stock stock) {
            int won = 0;
            for (int work = 0; work < MOST_WORKS; work++) {
                won += stock.sizeOf(work) * taken[pairOf(library, work)];
            }
            return won;
        }

        long packed() {
            long all = 0;
            for (int pair = 0; pair < MOST_PAIRS; pair++) {
                all |= (long) (taken[pair] & 3) << (2 * pair);
            }
            return all;
        }

        /** CHANGES: NONE without a PLAN. */
        int changes(Stock stock) {
            if (!exists) {
                return NONE;
            }
            int many = 0;
            for (int b = 1; b < stock.libraries(); b++) {
                for (int a = 0; a < b; a++) {
                    many += changesOf(stock, a, b);
                }
            }
            return many;
        }

        private int changesOf(Stock stock, int a, int b) {
            int less = 0;
            int more = 0;
            int both = 0;
            for (int work = 0; work < stock.works(); work++) {
                boolean aLess = mayMove(stock, a, b, work);
                boolean aMore = mayMove(stock, b, a, work);
                less += aLess ? 1 : 0;
                more += aMore ? 1 : 0;
                both += aLess && aMore ? 1 : 0;
            }
            return less * more - both;
        }

        /** Whether 'from' could withdraw one less, and 'to' one more, of a WORK. */
        private boolean mayMove(Stock stock, int from, int to, int work) {
            return taken[pairOf(from, work)] > 0 && taken[pairOf(to, work)] < stock.offerOf(to, work);
        }
    }

    /** What would be of THE PLAN, if one thing were otherwise. */
    private static final class Outlook {
        private final Scales scales;
        private final Stock trial;
        int inTheWay;
        int firstInTheWay;

        Outlook(Scales scales) {
            this.scales = scales;
            trial = new Stock();
        }

        int late(Stock stock) {
            trial.copyFrom(stock);
            int now = stock.cell[YEAR];
            for (int year = now; year <= LAST_YEAR + 1; year++) {
                // between ends of PROMISES nothing changes
                if (year == now || stock.promiseEndsWith(year - 1)) {
                    trial.cell[YEAR] = year;
                    scales.load(trial);
                    if (scales.hasPlan()) {
                        return year;
                    }
                }
            }
            return NONE;
        }

        void findInTheWay(Stock stock) {
            inTheWay = 0;
            firstInTheWay = NONE;
            scales.load(stock);
            int space = scales.space(0);
            for (int library = 0; library < stock.libraries(); library++) {
                for (int work = 0; work < stock.works(); work++) {
                    // NONE is less than any SPACE
                    if (stock.promiseCounts(library, work) && spaceWithout(stock, library, work) > space) {
                        firstInTheWay = inTheWay == 0 ? 10 * library + work : firstInTheWay;
                        inTheWay++;
                    }
                }
            }
        }

        private int spaceWithout(Stock stock, int library, int work) {
            scales.setOffer(library, work, stock.heldIn(library, work));
            int space = scales.space(0);
            scales.setOffer(library, work, stock.offerOf(library, work));
            return space;
        }

        int stricter(Stock stock, int work) {
            scales.load(stock);
            if (!scales.hasPlan()) {
                return NONE;
            }
            int rest = stock.copiesOf(work) - stock.keepOf(work);
            for (int more = 1; more <= MOST_KEEP; more++) {
                scales.setSpare(work, rest - more);
                if (!scales.hasPlan()) {
                    return more - 1;
                }
            }
            return MOST_KEEP;
        }

        int tighter(Stock stock, int library) {
            scales.load(stock);
            if (!scales.hasPlan()) {
                return NONE;
            }
            int room = stock.roomOf(library);
            int copies = stock.copiesIn(library);
            for (int less = 1; less <= room; less++) {
                int need = Math.max(0, copies - (room - less));
                scales.setLibrary(library, need, Math.max(need, stock.wishOf(library)));
                if (!scales.hasPlan()) {
                    return less - 1;
                }
            }
            return room;
        }

        int apart(Stock stock, int library) {
            scales.load(stock);
            // who can withdraw none may as well have OFFERS
            scales.setLibrary(library, 0, 0);
            return scales.space(0);
        }

        int priceOfWork(Stock stock, int work) {
            scales.load(stock);
            int space = scales.space(0);
            if (space == NONE || stock.keepOf(work) == 0) {
                return NONE;
            }
            scales.setSpare(work, stock.copiesOf(work) - stock.keepOf(work) + 1);
            return scales.space(0) - space;
        }

        int priceOfLibrary(Stock stock, int library) {
            scales.load(stock);
            int space = scales.space(0);
            if (space == NONE) {
                return NONE;
            }
            int wish = Math.min(MOST_ROOM, stock.wishOf(library) + 1);
            int need = stock.needOf(library);
            scales.setLibrary(library, need, Math.max(need, wish));
            return scales.space(0) - space;
        }
    }

    /** BY TURNS, and ORDERS. */
    private static final class Turns {
        private final Scales scales;
        private final int[] spare;
        private final int[] order;
        private int withdrew;
        final int[] best;
        int space;
        int lacking;
        int orders;
        int bestSpace;

        Turns(Scales scales) {
            this.scales = scales;
            // a row for each LIBRARY's turn, and one behind the last
            spare = new int[(MOST_LIBRARIES + 1) * MOST_WORKS];
            order = new int[MOST_LIBRARIES];
            best = new int[MOST_LIBRARIES];
        }

        private void begin(Stock stock) {
            scales.load(stock);
            for (int work = 0; work < scales.works; work++) {
                spare[work] = scales.spare[work];
            }
        }

        void goRound(Stock stock, int first) {
            begin(stock);
            space = 0;
            lacking = 0;
            for (int turn = 0; turn < scales.libraries; turn++) {
                int library = first + turn < scales.libraries ? first + turn : first + turn - scales.libraries;
                space += withdraw(library, turn);
                if (withdrew < scales.need[library]) {
                    lacking |= 1 << library;
                }
            }
        }

        void findOrders(Stock stock) {
            begin(stock);
            orders = 0;
            bestSpace = NONE;
            lineUp(0, 0, 0);
        }

        private void lineUp(int turn, int done, int spaceSoFar) {
            if (turn >= scales.libraries || turn >= MOST_LIBRARIES) {
                orders++;
                if (spaceSoFar > bestSpace) {
                    bestSpace = spaceSoFar;
                    System.arraycopy(order, 0, best, 0, MOST_LIBRARIES);
                }
                return;
            }
            for (int library = 0; library < scales.libraries; library++) {
                if ((done >> library & 1) == 0) {
                    int won = withdraw(library, turn);
                    if (withdrew >= scales.need[library]) {
                        order[turn] = library;
                        lineUp(turn + 1, done | 1 << library, spaceSoFar + won);
                    }
                }
            }
        }

        /** SPACE that a LIBRARY wins; the SPARE that it finds is in the turn's row, what it leaves in the next one. */
        private int withdraw(int library, int turn) {
            int row = turn * MOST_WORKS;
            int won = 0;
            int left = scales.limit[library];
            for (int i = 0; i < scales.works; i++) {
                int work = scales.bySize[i];
                int there = spare[row + work];
                int many = Math.min(left, Math.min(there, scales.offer[pairOf(library, work)]));
                spare[row + MOST_WORKS + work] = there - many;
                left -= many;
                won += many * scales.size[work];
            }
            withdrew = scales.limit[library] - left;
            return won;
        }
    }

    /** HELP and its FIRST. One GIVEN copy lessens any set's LACK by one at most. */
    private static final class Help {
        private static final int MOST = 2;

        private final Scales scales;
        private final Stock trial;
        private final int[] lacks;
        int fewest;
        int first;

        Help(Scales scales) {
            this.scales = scales;
            trial = new Stock();
            lacks = new int[MOST_SETS];
        }

        void find(Stock stock) {
            trial.copyFrom(stock);
            scales.load(trial);
            int shortage = scales.lackOf(scales.worstSet());
            fewest = NONE;
            first = NONE;
            if (shortage == 0) {
                fewest = 0;
            } else if (shortage <= MOST) {
                first = shortage == 1 ? firstThatEnds() : NONE;
                fewest = first == NONE ? NONE : 1;
                if (first == NONE) {
                    first = firstOfTwo();
                    fewest = first == NONE ? NONE : 2;
                }
            }
        }

        /** The first one behind which there is a PLAN; scales are loaded with the trial. */
        private int firstThatEnds() {
            int worst = scales.worstSet();
            for (int set = 0; set < scales.sets; set++) {
                lacks[set] = scales.lackOf(set);
            }
            for (int library = 0; library < scales.libraries; library++) {
                for (int to = 0; to < scales.libraries; to++) {
                    if (to == library || !trial.hasRoom(to)) {
                        continue;
                    }
                    for (int work = 0; work < scales.works; work++) {
                        if (trial.mayGive(library, to, work) && ends(library, work, worst)) {
                            return 100 * library + 10 * to + work;
                        }
                    }
                }
            }
            return NONE;
        }

        /** Whether no set lacks any more; the worst one is asked first, as it mostly tells. */
        private boolean ends(int library, int work, int worst) {
            if (lackThen(library, work, worst) > 0) {
                return false;
            }
            for (int set = 1; set < scales.sets; set++) {
                if (lackThen(library, work, set) > 0) {
                    return false;
                }
            }
            return true;
        }

        /**
         * LACK of a set, were a copy GIVEN by a LIBRARY: SPARE stays. Who may get it has ROOM, so no NEED then
         * either: a set with it lacks no more than without, whatever it OFFERS; so it isn't looked at.
         */
        private int lackThen(int library, int work, int set) {
            int at = work * MOST_SETS + set;
            int lack = lacks[set];
            int offers = scales.offers[at];
            if ((set >> library & 1) != 0) {
                lack -= scales.need[library] > 0 ? 1 : 0;
                offers--;
            }
            return lack + scales.can[at] - Math.min(offers, scales.spare[work]);
        }

        /** As firstThatEnds(), of two. */
        private int firstOfTwo() {
            for (int library = 0; library < trial.libraries(); library++) {
                for (int to = 0; to < trial.libraries(); to++) {
                    for (int work = 0; work < trial.works(); work++) {
                        if (!trial.mayGive(library, to, work)) {
                            continue;
                        }
                        trial.moveOne(library, to, work);
                        scales.load(trial);
                        boolean near = scales.lackOf(scales.worstSet()) <= 1;
                        boolean found = near && firstThatEnds() != NONE;
                        trial.moveOne(to, library, work);
                        if (found) {
                            return 100 * library + 10 * to + work;
                        }
                    }
                }
            }
            return NONE;
        }
    }

    /** FITS and LOOK NEXT. */
    private static final class Fits {
        private static final int KEEPS = MOST_KEEP + 1;

        private final Scales scales;
        private final boolean[] fit;
        private final long[] seen;
        int many;
        int first;
        int next;
        int unlike;

        Fits(Scales scales) {
            this.scales = scales;
            fit = new boolean[MOST_WORKS * KEEPS];
            // a bit for NONE and for each SPACE
            seen = new long[16];
        }

        void find(State now) {
            Stock stock = now.stock;
            many = 0;
            first = NONE;
            scales.load(stock);
            for (int work = 0; work < stock.works(); work++) {
                findOf(now, work);
                scales.setSpare(work, stock.spareOf(work));
            }
        }

        private void findOf(State now, int work) {
            Stock stock = now.stock;
            int spare = NONE;
            int space = NONE;
            for (int keep = 0; keep < KEEPS; keep++) {
                int spareThen = spareWith(stock, work, keep);
                if (spareThen != spare) {
                    spare = spareThen;
                    space = spaceWith(work, spare);
                }
                boolean fits = keep != stock.keepOf(work) && now.allNotedAre(space);
                fit[work * KEEPS + keep] = fits;
                if (fits) {
                    first = many == 0 ? 100 * work + keep : first;
                    many++;
                }
            }
        }

        /** SPARE, as far as OFFERS reach: KEEPS that are alike in it are alike in SPACE. */
        private int spareWith(Stock stock, int work, int keep) {
            return Math.min(scales.allOffers(work), Math.max(0, stock.copiesOf(work) - keep));
        }

        private int spaceWith(int work, int spare) {
            scales.setSpare(work, spare);
            return scales.space(0);
        }

        void lookNext(Stock stock) {
            next = NONE;
            unlike = 0;
            if (many == 0) {
                return;
            }
            for (int library = 0; library < stock.libraries(); library++) {
                int found = unlikeWith(stock, library);
                if (found > unlike) {
                    unlike = found;
                    next = library;
                }
            }
        }

        private int unlikeWith(Stock stock, int library) {
            scales.load(stock);
            int room = Math.max(0, stock.roomOf(library) - 1);
            int need = Math.max(0, stock.copiesIn(library) - room);
            scales.setLibrary(library, need, Math.max(need, stock.wishOf(library)));
            for (int i = 0; i < seen.length; i++) {
                seen[i] = 0L;
            }
            int found = 0;
            for (int work = 0; work < stock.works(); work++) {
                found += newWith(stock, work);
                scales.setSpare(work, stock.spareOf(work));
            }
            return found;
        }

        private int newWith(Stock stock, int work) {
            int found = 0;
            int spare = NONE;
            for (int keep = 0; keep < KEEPS; keep++) {
                int spareThen = spareWith(stock, work, keep);
                if (fit[work * KEEPS + keep] && spareThen != spare) {
                    spare = spareThen;
                    found += markNew(spaceWith(work, spare));
                }
            }
            return found;
        }

        private int markNew(int space) {
            int at = space + 1;
            int row = at >> 6;
            if (row < 0 || row >= seen.length) {
                return 0;
            }
            long bit = 1L << (at & 63);
            if ((seen[row] & bit) != 0) {
                return 0;
            }
            seen[row] |= bit;
            return 1;
        }
    }

    /** YEARS by a seed. */
    private static final class Draws {
        private final Plan plan;
        private int seed;
        final Stock trial;
        int plans;

        Draws(Plan plan) {
            this.plan = plan;
            trial = new Stock();
        }

        void run(Stock stock, int from, int times) {
            trial.copyFrom(stock);
            seed = from;
            plans = 0;
            for (int i = 0; i < times; i++) {
                int kind = draw(6);
                if (kind == 3) {
                    trial.cell[YEAR] = Math.min(LAST_YEAR, trial.cell[YEAR] + 1);
                } else if (kind == 5) {
                    carryOut();
                } else if (trial.libraries() > 0 && trial.works() > 0) {
                    moveCopy(kind);
                }
            }
        }

        private int draw(int many) {
            seed = seed * 1103515245 + 12345;
            return many > 0 ? (seed >>> 16 & 32767) % many : 0;
        }

        /** 0, 1: one more; 2: one GOES; 4: one is GIVEN. */
        private void moveCopy(int kind) {
            int work = draw(trial.works());
            int library = draw(trial.libraries());
            int place = HELD + pairOf(library, work);
            if (kind < 2) {
                trial.cell[place] = Math.min(MOST_COPIES, trial.cell[place] + 1);
            } else if (kind == 2) {
                if (trial.mayGo(library, work)) {
                    trial.cell[place]--;
                    trial.cell[WENT]++;
                }
            } else {
                int to = draw(trial.libraries());
                if (trial.mayGive(library, to, work)) {
                    trial.moveOne(library, to, work);
                }
            }
        }

        private void carryOut() {
            plan.make(trial);
            if (plan.exists) {
                trial.withdraw(plan.packed());
                trial.cell[WENT] += plan.copies;
                plans++;
            }
        }
    }
}
