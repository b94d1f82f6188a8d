import java.math.BigInteger;
import java.util.ArrayList;
import java.util.Arrays;
import java.util.HashSet;
import java.util.LinkedList;
import java.util.List;
import java.util.NoSuchElementException;
import java.util.Set;

/**
 * The document told once more, in the slowest and plainest way: THE PLAN by a flow of least cost in which the
 * cost of a copy tells SPACE, copies and order at once (and, where there are few WAYS, by looking at them all),
 * ACTS by copies of the whole state. The tests compare CopyKeeper with it.
 */
final class Model {
    static final int NONE = -1;

    static final class World implements Cloneable {
        int libraries, works, year, went, storeRoom;
        int[] room = new int[5], wish = new int[5], size = new int[6], keep = new int[6], stored = new int[6];
        int[][] held = new int[5][6], much = new int[5][6], until = new int[5][6];

        World copy() {
            World w = new World();
            w.libraries = libraries;
            w.works = works;
            w.year = year;
            w.went = went;
            w.storeRoom = storeRoom;
            w.room = room.clone();
            w.wish = wish.clone();
            w.size = size.clone();
            w.keep = keep.clone();
            w.stored = stored.clone();
            for (int i = 0; i < 5; i++) {
                w.held[i] = held[i].clone();
                w.much[i] = much[i].clone();
                w.until[i] = until[i].clone();
            }
            return w;
        }

        boolean counts(int l, int w) {
            return much[l][w] > 0 && !(year > until[l][w]);
        }

        int offer(int l, int w) {
            return Math.max(0, held[l][w] - (counts(l, w) ? much[l][w] : 0));
        }

        int copies(int w) {
            int n = stored[w];
            for (int l = 0; l < libraries; l++) n += held[l][w];
            return n;
        }

        int spare(int w) {
            return Math.max(0, copies(w) - keep[w]);
        }

        int holds(int l) {
            return Arrays.stream(held[l]).sum();
        }

        int need(int l) {
            return Math.max(0, holds(l) - room[l]);
        }

        boolean mayGo(int l, int w) {
            return offer(l, w) > 0 && spare(w) > 0;
        }

        boolean mayGive(int a, int b, int w) {
            return a != b && offer(a, w) > 0 && held[b][w] < 3 && holds(b) < room[b];
        }
    }

    /** What a PLAN is asked of; a World without its stories. */
    static final class Question {
        int libraries, works;
        int[][] offer = new int[5][6];
        int[] spare = new int[6], size = new int[6], need = new int[5], most = new int[5];

        Question(World x) {
            libraries = x.libraries;
            works = x.works;
            for (int l = 0; l < libraries; l++) {
                need[l] = x.need(l);
                most[l] = Math.max(x.need(l), x.wish[l]);
                for (int w = 0; w < works; w++) offer[l][w] = x.offer(l, w);
            }
            for (int w = 0; w < works; w++) {
                spare[w] = x.spare(w);
                size[w] = x.size[w];
            }
        }
    }

    /** THE PLAN as rows, or null. */
    static int[][] plan(Question q) {
        int[][] byFlow = planByFlow(q);
        if (ways(q) <= 3000) {
            int[][] byAll = new AllWays(q).best;
            if (!Arrays.deepEquals(byFlow, byAll)) throw new IllegalStateException("the model's two PLANS are unlike");
        }
        return byFlow;
    }

    static long ways(Question q) {
        long n = 1;
        for (int[] row : q.offer) for (int o : row) n = Math.min(1000000, n * (o + 1));
        return n;
    }

    static final class AllWays {
        final Question q;
        final int[][] now = new int[5][6];
        int[][] best;
        int bestSpace, bestCopies;

        AllWays(Question q) {
            this.q = q;
            look(0);
        }

        void look(int at) {
            if (at == q.libraries * q.works || q.works == 0) {
                weigh();
                return;
            }
            int l = at / q.works, w = at % q.works;
            for (int n = q.offer[l][w]; n >= 0; n--) {
                now[l][w] = n;
                look(at + 1);
            }
            now[l][w] = 0;
        }

        void weigh() {
            int space = 0, copies = 0;
            for (int w = 0; w < q.works; w++) {
                int n = 0;
                for (int l = 0; l < q.libraries; l++) n += now[l][w];
                if (n > q.spare[w]) return;
                space += n * q.size[w];
                copies += n;
            }
            for (int l = 0; l < q.libraries; l++) {
                int n = Arrays.stream(now[l]).sum();
                if (n < q.need[l] || n > q.most[l]) return;
            }
            if (best == null || space > bestSpace || space == bestSpace && copies < bestCopies) {
                best = new int[5][];
                for (int l = 0; l < 5; l++) best[l] = now[l].clone();
                bestSpace = space;
                bestCopies = copies;
            }
        }
    }

    static final class Edge {
        int from, to, left;
        BigInteger cost;
        Edge back;
    }

    static Edge edge(List<Edge> edges, int from, int to, int most, BigInteger cost) {
        Edge e = new Edge(), b = new Edge();
        e.from = from; e.to = to; e.left = most; e.cost = cost; e.back = b;
        b.from = to; b.to = from; b.left = 0; b.cost = cost.negate(); b.back = e;
        edges.add(e);
        edges.add(b);
        return e;
    }

    static int[][] planByFlow(Question q) {
        List<Edge> edges = new ArrayList<>();
        BigInteger one = BigInteger.ONE, must = one.shiftLeft(100).negate();
        List<Edge> musts = new ArrayList<>();
        Edge[][] pairs = new Edge[5][6];
        for (int l = 0; l < q.libraries; l++) {
            musts.add(edge(edges, 0, 2 + l, q.need[l], must));
            edge(edges, 0, 2 + l, q.most[l] - q.need[l], BigInteger.ZERO);
            for (int w = 0; w < q.works; w++) {
                BigInteger cost = BigInteger.valueOf(q.size[w]).shiftLeft(80).subtract(one.shiftLeft(70))
                        .add(one.shiftLeft(2 * (29 - 6 * l - w)));
                pairs[l][w] = edge(edges, 2 + l, 7 + w, q.offer[l][w], cost.negate());
            }
        }
        for (int w = 0; w < q.works; w++) edge(edges, 7 + w, 1, q.spare[w], BigInteger.ZERO);
        while (push(edges)) { }
        for (Edge e : musts) if (e.left > 0) return null;
        int[][] taken = new int[5][6];
        for (int l = 0; l < q.libraries; l++) for (int w = 0; w < q.works; w++) taken[l][w] = pairs[l][w].back.left;
        return taken;
    }

    /** One copy more along the cheapest path, as long as that costs less than nothing. */
    static boolean push(List<Edge> edges) {
        BigInteger[] far = new BigInteger[13];
        Edge[] by = new Edge[13];
        far[0] = BigInteger.ZERO;
        for (int round = 0; round < 13; round++) {
            for (Edge e : edges) {
                if (e.left > 0 && far[e.from] != null) {
                    BigInteger there = far[e.from].add(e.cost);
                    if (far[e.to] == null || there.compareTo(far[e.to]) < 0) {
                        far[e.to] = there;
                        by[e.to] = e;
                    }
                }
            }
        }
        if (far[1] == null || far[1].signum() >= 0) return false;
        for (int at = 1; at != 0; at = by[at].from) {
            by[at].left--;
            by[at].back.left++;
        }
        return true;
    }

    static int spaceOf(Question q) {
        int[][] p = plan(q);
        if (p == null) return NONE;
        int space = 0;
        for (int l = 0; l < 5; l++) for (int w = 0; w < q.works; w++) space += p[l][w] * q.size[w];
        return space;
    }

    static int spaceOf(World x) {
        return spaceOf(new Question(x));
    }

    /** Whether there is a PLAN: only NEEDS flow, one copy after the other. */
    static boolean hasPlan(Question q) {
        int[][] taken = new int[5][6];
        for (int l = 0; l < q.libraries; l++) {
            for (int n = 0; n < q.need[l]; n++) {
                if (!reach(q, taken, l, new boolean[5])) return false;
            }
        }
        return true;
    }

    static boolean reach(Question q, int[][] taken, int l, boolean[] been) {
        been[l] = true;
        for (int w = 0; w < q.works; w++) {
            if (taken[l][w] >= q.offer[l][w]) continue;
            int all = 0;
            for (int k = 0; k < 5; k++) all += taken[k][w];
            if (all < q.spare[w]) {
                taken[l][w]++;
                return true;
            }
            for (int k = 0; k < q.libraries; k++) {
                if (!been[k] && taken[k][w] > 0) {
                    taken[k][w]--;
                    taken[l][w]++;
                    if (reach(q, taken, k, been)) return true;
                    taken[k][w]++;
                    taken[l][w]--;
                }
            }
        }
        return false;
    }

    static boolean hasPlan(World x) {
        return hasPlan(new Question(x));
    }

    byte[] tape = new byte[0];
    int faultPlace = NONE;
    World world = new World();
    LinkedList<World> acts = new LinkedList<>();
    List<Integer> noted = new ArrayList<>();
    int[] refused = new int[3];
    Object[] kept;
    int[][] planNow;
    World planOf;

    int feed(int a, int b, int c, int d, int e) {
        if (tape.length + 20 > 700) return NONE;
        int at = tape.length;
        tape = Arrays.copyOf(tape, at + 20);
        for (int n : new int[] {a, b, c, d, e}) {
            for (int i = 3; i >= 0; i--) tape[at++] = (byte) (n >> 8 * i);
        }
        return tape.length;
    }

    int desk(int n) {
        if (n < 0 || n > tape.length) throw new IllegalArgumentException();
        StringBuilder text = new StringBuilder();
        for (int i = 0; i < n; i++) text.append((char) (tape[i] & 255));
        tape = new byte[0];
        ModelText read = new ModelText(text.toString());
        if (read.fault != 0) {
            faultPlace = read.place;
            refused[0]++;
            return read.fault;
        }
        faultPlace = NONE;
        world = read.world;
        acts.clear();
        noted.clear();
        kept = null;
        return 0;
    }

    int fault() {
        return faultPlace;
    }

    int[][] planNow() {
        planNow = plan(new Question(world));
        return planNow;
    }

    static void check(boolean there) {
        if (!there) throw new NoSuchElementException();
    }

    static int sum(int[][] rows) {
        int n = 0;
        for (int[] row : rows) for (int x : row) n += x;
        return n;
    }

    int lackOf(int set) {
        int lack = 0;
        for (int l = 0; l < world.libraries; l++) if ((set >> l & 1) == 1) lack += world.need(l);
        for (int w = 0; w < world.works; w++) {
            int offers = 0;
            for (int l = 0; l < world.libraries; l++) if ((set >> l & 1) == 1) offers += world.offer(l, w);
            lack -= Math.min(offers, world.spare(w));
        }
        return lack;
    }

    int worst() {
        int best = 0;
        for (int members = 0; members <= 5; members++) {
            for (int set = 0; set < 1 << world.libraries; set++) {
                if (Integer.bitCount(set) == members && lackOf(set) > lackOf(best)) best = set;
            }
        }
        return best;
    }

    int count(int what) {
        World x = world;
        switch (what) {
            case 0: return x.libraries;
            case 1: return x.works;
            case 2: return x.year;
            case 3: return sum(x.held);
            case 4: return x.went;
            case 5: return planNow() != null ? 1 : 0;
            case 6: return spaceOf(x);
            case 7: return planNow() == null ? NONE : sum(planNow);
            case 8: return changes();
            case 9: return Math.max(0, lackOf(worst()));
            case 10: return worst();
            case 11: return scarce(worst());
            case 12: return late();
            case 13: return inTheWay().size();
            case 14: return inTheWay().isEmpty() ? NONE : inTheWay().get(0);
            case 15: case 16: return workBits(what);
            case 17: return acts.size();
            case 18: return noted.size();
            case 19: return tape.length;
            case 20: case 21: case 22: return refused[what - 20];
            case 23: return help()[0];
            case 24: return help()[1];
            case 25: return x.storeRoom;
            case 26: return Arrays.stream(x.stored).sum();
            case 27: return bestOrder() == null ? NONE : turns(x, bestOrder())[0];
            default: throw new NoSuchElementException();
        }
    }

    int workBits(int what) {
        int bits = 0;
        for (int w = 0; w < world.works; w++) {
            boolean is = what == 15 ? world.copies(w) == 1 : world.copies(w) < world.keep[w];
            if (is) bits |= 1 << w;
        }
        return bits;
    }

    int scarce(int set) {
        int bits = 0;
        for (int w = 0; w < world.works; w++) {
            int offers = 0;
            for (int l = 0; l < world.libraries; l++) if ((set >> l & 1) == 1) offers += world.offer(l, w);
            if (offers > world.spare(w)) bits |= 1 << w;
        }
        return bits;
    }

    int changes() {
        int[][] p = planNow();
        if (p == null) return NONE;
        int many = 0;
        for (int a = 0; a < world.libraries; a++) for (int b = a + 1; b < world.libraries; b++)
            for (int i = 0; i < world.works; i++) for (int j = 0; j < world.works; j++) {
                if (i != j && p[a][i] - 1 >= 0 && p[a][j] + 1 <= world.offer(a, j)
                        && p[b][j] - 1 >= 0 && p[b][i] + 1 <= world.offer(b, i)) many++;
            }
        return many;
    }

    int late() {
        for (int year = world.year; year <= 61; year++) {
            World x = world.copy();
            x.year = year;
            if (hasPlan(x)) return year;
        }
        return NONE;
    }

    List<Integer> inTheWay() {
        List<Integer> found = new ArrayList<>();
        int now = spaceOf(world);
        for (int l = 0; l < world.libraries; l++) for (int w = 0; w < world.works; w++) {
            if (!world.counts(l, w)) continue;
            World x = world.copy();
            x.much[l][w] = 0;
            int then = spaceOf(x);
            if (now == NONE ? then != NONE : then > now) found.add(10 * l + w);
        }
        return found;
    }

    int[] help() {
        if (hasPlan(world)) return new int[] {0, NONE};
        for (int most = 1; most <= 2; most++) {
            int code = gives(world, most);
            if (code != NONE) return new int[] {most, code};
        }
        return new int[] {NONE, NONE};
    }

    static int gives(World x, int most) {
        for (int a = 0; a < x.libraries; a++) for (int b = 0; b < x.libraries; b++) for (int w = 0; w < x.works; w++) {
            if (!x.mayGive(a, b, w)) continue;
            World then = x.copy();
            then.held[a][w]--;
            then.held[b][w]++;
            if (most == 1 ? hasPlan(then) : gives(then, most - 1) != NONE) return 100 * a + 10 * b + w;
        }
        return NONE;
    }

    /** SPACE, bits of those that lack. */
    static int[] turns(World from, List<Integer> order) {
        World x = from.copy();
        int space = 0, lacking = 0;
        for (int l : order) {
            int need = x.need(l), want = Math.max(need, x.wish[l]), got = 0;
            while (got < want) {
                int best = NONE;
                for (int w = 0; w < x.works; w++) {
                    if (x.mayGo(l, w) && (best == NONE || x.size[w] > x.size[best])) best = w;
                }
                if (best == NONE) break;
                x.held[l][best]--;
                space += x.size[best];
                got++;
            }
            if (got < need) lacking |= 1 << l;
        }
        return new int[] {space, lacking};
    }

    List<Integer> round(int first) {
        List<Integer> order = new ArrayList<>();
        for (int i = 0; i < world.libraries; i++) order.add((first + i) % world.libraries);
        return order;
    }

    List<List<Integer>> orders() {
        List<List<Integer>> all = new ArrayList<>();
        permute(new ArrayList<>(), all);
        all.removeIf(order -> turns(world, order)[1] != 0);
        return all;
    }

    void permute(List<Integer> begun, List<List<Integer>> all) {
        if (begun.size() == world.libraries) {
            all.add(new ArrayList<>(begun));
            return;
        }
        for (int l = 0; l < world.libraries; l++) {
            if (begun.contains(l)) continue;
            begun.add(l);
            permute(begun, all);
            begun.remove(begun.size() - 1);
        }
    }

    List<Integer> bestOrder() {
        List<Integer> best = null;
        int space = NONE;
        for (List<Integer> order : orders()) {
            int then = turns(world, order)[0];
            if (then > space) {
                space = then;
                best = order;
            }
        }
        return best;
    }

    int order(int i) {
        if (i == NONE) return orders().size();
        List<Integer> best = bestOrder();
        check(best != null && i >= 0 && i < best.size());
        return best.get(i);
    }

    boolean isLibrary(int l) {
        return l >= 0 && l < world.libraries;
    }

    boolean isWork(int w) {
        return w >= 0 && w < world.works;
    }

    int library(int l, int what) {
        check(isLibrary(l));
        World x = world;
        switch (what) {
            case 0: return x.room[l];
            case 1: return x.wish[l];
            case 2: return x.holds(l);
            case 3: return x.need(l);
            case 4: return planNow() == null ? NONE : Arrays.stream(planNow[l]).sum();
            case 5: {
                if (planNow() == null) return NONE;
                int won = 0;
                for (int w = 0; w < 6; w++) won += planNow[l][w] * x.size[w];
                return won;
            }
            case 6: {
                if (!hasPlan(x)) return NONE;
                int t = 0;
                while (t < x.room[l]) {
                    World y = x.copy();
                    y.room[l] -= t + 1;
                    if (!hasPlan(y)) break;
                    t++;
                }
                return t;
            }
            case 7: case 8: {
                World y = x.copy();
                y.held[l] = new int[6];
                int bits = 0;
                for (int w = 0; w < x.works; w++) {
                    boolean is = what == 7 ? y.copies(w) < y.keep[w] : y.copies(w) == 0 && x.copies(w) != 0;
                    if (is) bits |= 1 << w;
                }
                return bits;
            }
            case 9: return turns(x, round(l))[0];
            case 10: return turns(x, round(l))[1];
            case 11: {
                Question q = new Question(x);
                q.offer[l] = new int[6];
                q.need[l] = 0;
                return spaceOf(q);
            }
            case 12: {
                if (planNow() == null) return NONE;
                World y = x.copy();
                y.wish[l] = Math.min(20, y.wish[l] + 1);
                return spaceOf(y) - spaceOf(x);
            }
            default: throw new NoSuchElementException();
        }
    }

    int work(int w, int what) {
        check(isWork(w));
        World x = world;
        switch (what) {
            case 0: return x.size[w];
            case 1: return x.keep[w];
            case 2: return x.copies(w);
            case 3: return x.spare(w);
            case 4: return Math.max(0, x.keep[w] - x.copies(w));
            case 5: {
                if (planNow() == null) return NONE;
                int n = 0;
                for (int l = 0; l < 5; l++) n += planNow[l][w];
                return n;
            }
            case 6: {
                if (!hasPlan(x)) return NONE;
                int t = 0;
                while (t < 15) {
                    World y = x.copy();
                    y.keep[w] += t + 1;
                    if (!hasPlan(y)) break;
                    t++;
                }
                return t;
            }
            case 7: {
                int bits = 0;
                for (int l = 0; l < x.libraries; l++) if (x.held[l][w] > 0) bits |= 1 << l;
                return bits;
            }
            case 8: return x.stored[w];
            case 9: return safe(w);
            case 10: {
                if (planNow() == null || x.keep[w] == 0) return NONE;
                World y = x.copy();
                y.keep[w]--;
                return spaceOf(y) - spaceOf(x);
            }
            default: throw new NoSuchElementException();
        }
    }

    int safe(int w) {
        int fewest = NONE;
        for (int set = 0; set < 1 << world.libraries; set++) {
            int copies = world.copies(w);
            for (int l = 0; l < world.libraries; l++) if ((set >> l & 1) == 1) copies -= world.held[l][w];
            int members = Integer.bitCount(set);
            if (copies < world.keep[w] && (fewest == NONE || members < fewest)) fewest = members;
        }
        return fewest;
    }

    int held(int l, int w, int what) {
        check(isLibrary(l) && isWork(w));
        World x = world;
        switch (what) {
            case 0: return x.held[l][w];
            case 1: return x.much[l][w];
            case 2: return x.much[l][w] == 0 ? NONE : x.until[l][w];
            case 3: return x.counts(l, w) ? 1 : 0;
            case 4: return x.offer(l, w);
            case 5: return planNow() == null ? NONE : planNow[l][w];
            case 6: return x.held[l][w] == 0 ? 1 : x.offer(l, w) == 0 ? 2 : x.spare(w) == 0 ? 3 : 0;
            default: throw new NoSuchElementException();
        }
    }

    int lack(int set) {
        if (set < 0 || set >> world.libraries != 0) throw new IllegalArgumentException();
        return lackOf(set);
    }

    int refuse() {
        refused[1]++;
        return NONE;
    }

    World act() {
        acts.add(world);
        if (acts.size() > 40) acts.removeFirst();
        world = world.copy();
        return world;
    }

    int own(int l, int w, int copies) {
        if (!isLibrary(l) || !isWork(w) || copies < 0 || copies > 3 || world.held[l][w] == copies) return refuse();
        int before = world.held[l][w];
        act().held[l][w] = copies;
        return before;
    }

    int promise(int l, int w, int much, int year) {
        if (!isLibrary(l) || !isWork(w) || much < 0 || much > 3) return refuse();
        if (much > 0 && (year < 0 || year > 60) || much == 0 && world.much[l][w] == 0) return refuse();
        int before = world.much[l][w];
        act().much[l][w] = much;
        world.until[l][w] = year;
        return before;
    }

    int keep(int w, int copies) {
        if (!isWork(w) || copies < 0 || copies > 15) return refuse();
        int before = world.keep[w];
        act().keep[w] = copies;
        return before;
    }

    int room(int l, int what, int copies) {
        if (!isLibrary(l) || what < 0 || what > 1 || copies < 0 || copies > 20) return refuse();
        act();
        int[] row = what == 0 ? world.room : world.wish;
        int before = row[l];
        row[l] = copies;
        return before;
    }

    int go(int l, int w) {
        if (!isLibrary(l) || !isWork(w) || !world.mayGo(l, w)) return refuse();
        act().held[l][w]--;
        world.went++;
        return world.spare(w);
    }

    int give(int l, int to, int w) {
        if (!isLibrary(l) || !isLibrary(to) || !isWork(w) || !world.mayGive(l, to, w)) return refuse();
        act().held[l][w]--;
        return ++world.held[to][w];
    }

    int send(int l, int w) {
        if (!isLibrary(l) || !isWork(w) || world.offer(l, w) == 0) return refuse();
        if (Arrays.stream(world.stored).sum() >= world.storeRoom) return refuse();
        act().held[l][w]--;
        return ++world.stored[w];
    }

    static int carryOut(World x) {
        int[][] p = plan(new Question(x));
        if (p == null) return NONE;
        for (int l = 0; l < 5; l++) for (int w = 0; w < 6; w++) x.held[l][w] -= p[l][w];
        x.went += sum(p);
        return sum(p);
    }

    int carry() {
        if (planNow() == null) return refuse();
        return carryOut(act());
    }

    int years(int many) {
        if (many < 1 || many > 9 || world.year + many > 60) return refuse();
        act().year += many;
        return world.year;
    }

    int undo() {
        if (acts.isEmpty()) return NONE;
        world = acts.removeLast();
        return acts.size();
    }

    int note(int space) {
        if (noted.size() == 6 || space < NONE || space > 999) {
            refused[2]++;
            return NONE;
        }
        noted.add(space);
        return noted.size();
    }

    boolean allNoted(int space) {
        for (int n : noted) if (n != space) return false;
        return true;
    }

    List<Integer> fitting() {
        List<Integer> found = new ArrayList<>();
        for (int w = 0; w < world.works; w++) for (int k = 0; k <= 15; k++) {
            World x = world.copy();
            x.keep[w] = k;
            if (k != world.keep[w] && allNoted(spaceOf(x))) found.add(100 * w + k);
        }
        return found;
    }

    int fits(int what) {
        switch (what) {
            case 0: return fitting().size();
            case 1: return fitting().isEmpty() ? NONE : fitting().get(0);
            case 2: return allNoted(spaceOf(world)) ? 1 : 0;
            default: throw new NoSuchElementException();
        }
    }

    int look(int what) {
        check(what == 0 || what == 1);
        int best = NONE, most = 0;
        List<Integer> fitting = fitting();
        for (int l = 0; l < world.libraries && !fitting.isEmpty(); l++) {
            Set<Integer> unlike = new HashSet<>();
            for (int f : fitting) {
                World x = world.copy();
                if (x.room[l] != 0) x.room[l]--;
                x.keep[f / 100] = f % 100;
                unlike.add(spaceOf(x));
            }
            if (unlike.size() > most) {
                most = unlike.size();
                best = l;
            }
        }
        return what == 0 ? best : most;
    }

    void forget() {
        noted.clear();
    }

    int seed;

    int draw(int n) {
        seed = seed * 1103515245 + 12345;
        return (seed >>> 16) % 32768 % n;
    }

    int drawn(int from, int n, int what) {
        check(what >= 0 && what <= 2);
        if (n < 0 || n > 40) throw new IllegalArgumentException();
        World x = world.copy();
        seed = from;
        int plans = 0;
        boolean any = x.libraries > 0 && x.works > 0;
        for (int i = 0; i < n; i++) {
            int kind = draw(6);
            if (kind == 3 && x.year < 60) x.year++;
            if (kind == 5 && carryOut(x) != NONE) plans++;
            if (kind == 3 || kind == 5 || !any) continue;
            int w = draw(x.works), l = draw(x.libraries);
            if (kind <= 1 && x.held[l][w] < 3) x.held[l][w]++;
            if (kind == 2 && x.mayGo(l, w)) {
                x.held[l][w]--;
                x.went++;
            }
            if (kind == 4) {
                int to = draw(x.libraries);
                if (x.mayGive(l, to, w)) {
                    x.held[l][w]--;
                    x.held[to][w]++;
                }
            }
        }
        return what == 0 ? sum(x.held) : what == 1 ? x.went - world.went : plans;
    }

    void image() {
        kept = new Object[] {world.copy(), new LinkedList<>(acts), new ArrayList<>(noted), refused.clone()};
    }

    @SuppressWarnings("unchecked")
    boolean restore() {
        if (kept == null) return false;
        world = ((World) kept[0]).copy();
        acts = new LinkedList<>((LinkedList<World>) kept[1]);
        noted = new ArrayList<>((List<Integer>) kept[2]);
        refused = ((int[]) kept[3]).clone();
        return true;
    }
}
