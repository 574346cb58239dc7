import java.util.ArrayDeque;
import java.util.ArrayList;
import java.util.Arrays;
import java.util.Comparator;
import java.util.Deque;
import java.util.List;

/**
 * The document once more, written as plainly as it reads and as slowly as need be: whole lists of
 * candidates that are sorted, whole plans that are copied. The random runs hold the class against it.
 */
final class Oracle {
    private static final int NONE = -1, MISSING = -2, BEYOND = -3, BELOW = -4, KIND = -5, COPY = -6, NO = -7, FULL = -8;

    static final class Stop {
        int kind, place, from, to, serve, amount, mate = NONE, price = 1;
    }

    static final class Van {
        int load, from, to, fee;
    }

    /** All that can be said of one round. */
    static final class Report {
        int why, where = NONE, back, cost, waiting, late;
        List<int[]> times = new ArrayList<>();
    }

    private final int[][][] streets = new int[8][8][8];
    private int[][][] ways = new int[8][480][];
    private final List<Stop> stops = new ArrayList<>();
    private final List<Van> vans = new ArrayList<>();
    private List<List<Integer>> plan = emptyPlan();
    private final Deque<List<List<Integer>>> past = new ArrayDeque<>();
    private List<Integer> row = null;
    private int latestWhere = NONE;
    private final int[] tally = new int[9];

    /** To be told of every answer, for status(). */
    void tally(int answer) {
        if (in(answer, -8, -2)) tally[-answer]++;
    }

    private static List<List<Integer>> emptyPlan() {
        List<List<Integer>> plan = new ArrayList<>();
        for (int v = 0; v < 3; v++) plan.add(new ArrayList<>());
        return plan;
    }

    private static List<List<Integer>> copyOf(List<List<Integer>> plan) {
        List<List<Integer>> copy = new ArrayList<>();
        for (List<Integer> round : plan) copy.add(new ArrayList<>(round));
        return copy;
    }

    // ---- the town

    private static boolean in(int x, int from, int to) {
        return from <= x && x <= to;
    }

    /** To wait at the street's end till a later minute, and to set out then, comes to the same. */
    private int crossing(int a, int b, int t) {
        int best = Integer.MAX_VALUE;
        for (int out = t; out < 480; out++) best = Math.min(best, out + streets[a][b][out / 60]);
        return best;
    }

    private int[] allWays(int a, int t) {
        if (ways[a][t] != null) return ways[a][t];
        int[] come = new int[8];
        Arrays.fill(come, NONE);
        come[a] = t;
        boolean changed = true;
        while (changed) {
            changed = false;
            for (int p = 0; p < 8; p++) {
                if (come[p] == NONE || come[p] >= 480) continue;
                for (int q = 0; q < 8; q++) {
                    if (streets[p][q][0] == 0) continue;
                    int c = crossing(p, q, come[p]);
                    if (come[q] == NONE || c < come[q]) {
                        come[q] = c;
                        changed = true;
                    }
                }
            }
        }
        return ways[a][t] = come;
    }

    private int wayOrNone(int a, int b, int t) {
        if (a == b) return t;
        return t >= 480 ? NONE : allWays(a, t)[b];
    }

    int street(int a, int b, int m) {
        if (!in(a, 0, 7) || !in(b, 0, 7)) return BEYOND;
        if (!in(m, 0, 99) || a == b) return NO;
        int[] old = streets[a][b].clone();
        int[] fresh = new int[8];
        Arrays.fill(fresh, m);
        if (!tellStreet(a, b, old, fresh)) return NO;
        return old[0] == 0 ? 0 : 1;
    }

    int slow(int a, int b, int hour, int m) {
        if (!in(a, 0, 7) || !in(b, 0, 7) || !in(hour, 0, 7)) return BEYOND;
        if (streets[a][b][0] == 0) return MISSING;
        if (!in(m, 1, 99)) return NO;
        int[] old = streets[a][b].clone();
        int[] fresh = old.clone();
        fresh[hour] = m;
        if (!tellStreet(a, b, old, fresh)) return NO;
        return old[hour];
    }

    private boolean tellStreet(int a, int b, int[] old, int[] fresh) {
        streets[a][b] = fresh;
        streets[b][a] = fresh;
        ways = new int[8][480][];
        if (told()) return true;
        streets[a][b] = old;
        streets[b][a] = old;
        ways = new int[8][480][];
        return false;
    }

    /** Whether what was told lets all rounds fit; then nothing can be taken back any more. */
    private boolean told() {
        if (!allFit(plan)) return false;
        past.clear();
        return true;
    }

    int way(int a, int b, int minute) {
        if (!in(a, 0, 7) || !in(b, 0, 7) || !in(minute, 0, 479)) return BEYOND;
        return wayOrNone(a, b, minute);
    }

    // ---- stops and vans

    private static boolean spanOk(int span) {
        return span >= 0 && span / 1000 < 480 && span % 1000 < 480 && span / 1000 <= span % 1000;
    }

    private boolean isStop(int stop) {
        return in(stop, 0, stops.size() - 1);
    }

    private boolean isVan(int van) {
        return in(van, 0, vans.size() - 1);
    }

    int stop(int told, int span, int serve, int fetch) {
        if (told < 0 || told % 10 > 7) return BEYOND;
        boolean drop = told / 10 == 2;
        if (drop && !isStop(fetch)) return BEYOND;
        if (drop && stops.get(fetch).kind != 1) return KIND;
        if (told / 10 > 4) return NO;
        if (!spanOk(span)) return NO;
        if (serve < 0 || serve / 100 > 60) return NO;
        if (!drop && serve % 100 > 50) return NO;
        if (drop && stops.get(fetch).mate != NONE) return NO;
        if (drop && vanOf(plan, fetch) != NONE) return NO;
        if (stops.size() == 12) return FULL;
        Stop s = new Stop();
        s.kind = told / 10;
        s.place = told % 10;
        s.from = span / 1000;
        s.to = span % 1000;
        s.serve = serve / 100;
        s.amount = serve % 100;
        stops.add(s);
        if (drop) {
            s.mate = fetch;
            s.amount = stops.get(fetch).amount;
            stops.get(fetch).mate = stops.size() - 1;
        }
        past.clear();
        return stops.size() - 1;
    }

    int span(int stop, int span) {
        if (!isStop(stop)) return BEYOND;
        if (!spanOk(span)) return NO;
        Stop s = stops.get(stop);
        int from = s.from, to = s.to;
        s.from = span / 1000;
        s.to = span % 1000;
        if (told()) return from * 1000 + to;
        s.from = from;
        s.to = to;
        return NO;
    }

    int price(int stop, int price) {
        if (!isStop(stop)) return BEYOND;
        if (stops.get(stop).kind != 3) return KIND;
        if (!in(price, 1, 9)) return NO;
        int old = stops.get(stop).price;
        stops.get(stop).price = price;
        past.clear();
        return old;
    }

    int van(int load, int shift, int fee) {
        if (!in(load, 1, 200) || !spanOk(shift) || !in(fee, 0, 500)) return NO;
        if (vans.size() == 3) return FULL;
        Van v = new Van();
        v.load = load;
        v.from = shift / 1000;
        v.to = shift % 1000;
        v.fee = fee;
        vans.add(v);
        past.clear();
        return vans.size() - 1;
    }

    int shift(int van, int shift) {
        if (!isVan(van)) return BEYOND;
        if (!spanOk(shift)) return NO;
        Van v = vans.get(van);
        int from = v.from, to = v.to;
        v.from = shift / 1000;
        v.to = shift % 1000;
        if (told()) return from * 1000 + to;
        v.from = from;
        v.to = to;
        return NO;
    }

    int look(int stop, int what) {
        if (!isStop(stop)) return BEYOND;
        if (!in(what, 0, 6)) return NO;
        Stop s = stops.get(stop);
        int van = vanOf(plan, stop);
        int place = van == NONE ? NONE : plan.get(van).indexOf(stop);
        return new int[] {s.kind, s.place, s.amount, s.serve, s.mate, van, place}[what];
    }

    // ---- rounds

    private static int vanOf(List<List<Integer>> plan, int stop) {
        for (int v = 0; v < 3; v++) if (plan.get(v).contains(stop)) return v;
        return NONE;
    }

    private Report report(int van, List<Integer> round) {
        Report r = new Report();
        if (round.isEmpty()) return r;
        Van v = vans.get(van);
        for (int i = 0; i < round.size(); i++) {
            Stop s = stops.get(round.get(i));
            boolean alone = s.kind == 2 && !round.subList(0, i).contains(s.mate);
            alone |= s.kind == 1 && s.mate != NONE && !round.contains(s.mate);
            if (alone) return fault(r, 1, i);
        }
        int load = 0;
        for (int stop : round) {
            Stop s = stops.get(stop);
            if (s.kind == 0 || s.kind == 3 || s.kind == 4) load += s.amount;
        }
        if (load > v.load) return fault(r, 2, NONE);
        int[] loads = new int[round.size()];
        for (int i = 0; i < round.size(); i++) {
            Stop s = stops.get(round.get(i));
            load += s.kind == 1 ? s.amount : -s.amount;
            loads[i] = load;
            if (load > v.load) return fault(r, 2, i);
        }
        int place = 0, now = v.from, serves = 0, fines = 0;
        for (int i = 0; i < round.size(); i++) {
            Stop s = stops.get(round.get(i));
            int come = wayOrNone(place, s.place, now);
            if (come == NONE) return fault(r, 3, i);
            int begin = come < s.from ? s.from : come;
            if (begin > 479) return fault(r, 3, i);
            if (begin > s.to && s.kind != 3) return fault(r, 3, i);
            if (begin > s.to) {
                r.late += begin - s.to;
                fines += (begin - s.to) * s.price;
            }
            r.waiting += begin - come;
            serves += s.serve;
            now = begin + s.serve;
            place = s.place;
            r.times.add(new int[] {come, begin, now, loads[i]});
        }
        r.back = wayOrNone(place, 0, now);
        if (r.back == NONE || r.back > v.to) return fault(r, 4, round.size());
        r.cost = r.back - v.from - serves + fines + v.fee;
        return r;
    }

    private static Report fault(Report r, int why, int where) {
        r.why = why;
        r.where = where;
        return r;
    }

    private boolean allFit(List<List<Integer>> plan) {
        for (int v = 0; v < vans.size(); v++) if (report(v, plan.get(v)).why != 0) return false;
        return true;
    }

    private int costOf(List<List<Integer>> plan) {
        int total = 0;
        for (int v = 0; v < vans.size(); v++) total += report(v, plan.get(v)).cost;
        return total;
    }

    int round(int van, int i) {
        if (!isVan(van)) return BEYOND;
        if (i == -1) return plan.get(van).size();
        return in(i, 0, plan.get(van).size() - 1) ? plan.get(van).get(i) : BEYOND;
    }

    int when(int van, int i, int what) {
        if (!isVan(van)) return BEYOND;
        List<Integer> round = plan.get(van);
        if (round.isEmpty() || !in(i, 0, round.size())) return BEYOND;
        Report r = report(van, round);
        if (i == round.size()) return what == 0 ? r.back : NO;
        return in(what, 0, 3) ? r.times.get(i)[what] : NO;
    }

    int cost(int van) {
        if (van == -1) return costOf(plan);
        return isVan(van) ? report(van, plan.get(van)).cost : BEYOND;
    }

    int why(int stop, int van, int i) {
        if (!isStop(stop) || !isVan(van) || !in(i, 0, plan.get(van).size())) return BEYOND;
        if (vanOf(plan, stop) != NONE) return NO;
        List<Integer> round = new ArrayList<>(plan.get(van));
        round.add(i, stop);
        Report r = report(van, round);
        latestWhere = r.where;
        return r.why;
    }

    int where() {
        return latestWhere;
    }

    // ---- changes

    private int changeTo(List<List<Integer>> next) {
        if (!allFit(next)) return NO;
        adopt(next);
        return costOf(plan);
    }

    private void adopt(List<List<Integer>> next) {
        if (next.equals(plan)) return;
        past.addLast(plan);
        if (past.size() > 20) past.removeFirst();
        plan = next;
    }

    int put(int stop, int van, int i) {
        if (!isStop(stop) || !isVan(van) || !in(i, 0, plan.get(van).size())) return BEYOND;
        if (vanOf(plan, stop) != NONE) return NO;
        List<List<Integer>> next = copyOf(plan);
        next.get(van).add(i, stop);
        return changeTo(next);
    }

    int pair(int stop, int van, int i, int j) {
        if (!isStop(stop) || !isVan(van)) return BEYOND;
        if (stops.get(stop).kind != 1) return KIND;
        if (stops.get(stop).mate == NONE) return MISSING;
        if (!in(i, 0, plan.get(van).size()) || !in(j, 0, plan.get(van).size() + 1)) return BEYOND;
        if (vanOf(plan, stop) != NONE) return NO;
        List<List<Integer>> next = copyOf(plan);
        next.get(van).add(i, stop);
        next.get(van).add(j, stops.get(stop).mate);
        return changeTo(next);
    }

    int take(int stop) {
        if (!isStop(stop)) return BEYOND;
        if (vanOf(plan, stop) == NONE) return NO;
        List<List<Integer>> next = copyOf(plan);
        for (List<Integer> round : next) {
            round.remove((Integer) stop);
            round.remove((Integer) stops.get(stop).mate);
        }
        return changeTo(next);
    }

    int move(int stop, int van, int i) {
        if (!isStop(stop) || !isVan(van)) return BEYOND;
        if (vanOf(plan, stop) == NONE) return NO;
        List<List<Integer>> next = copyOf(plan);
        for (List<Integer> round : next) round.remove((Integer) stop);
        if (!in(i, 0, next.get(van).size())) return BEYOND;
        next.get(van).add(i, stop);
        return changeTo(next);
    }

    int cross(int van, int i, int other, int j) {
        if (!isVan(van) || !isVan(other)) return BEYOND;
        List<Integer> a = plan.get(van), b = plan.get(other);
        if (!in(i, 0, a.size()) || !in(j, 0, b.size())) return BEYOND;
        if (van == other) return NO;
        List<Integer> first = new ArrayList<>(a.subList(0, i));
        first.addAll(b.subList(j, b.size()));
        List<Integer> second = new ArrayList<>(b.subList(0, j));
        second.addAll(a.subList(i, a.size()));
        List<List<Integer>> next = copyOf(plan);
        next.set(van, first);
        next.set(other, second);
        return changeTo(next);
    }

    int turn(int van, int i, int j) {
        if (!isVan(van)) return BEYOND;
        int n = plan.get(van).size();
        if (!in(i, 0, n - 1) || !in(j, 0, n - 1)) return BEYOND;
        if (i >= j) return NO;
        List<List<Integer>> next = copyOf(plan);
        for (int k = i; k <= j; k++) next.get(van).set(k, plan.get(van).get(i + j - k));
        return changeTo(next);
    }

    /** A put that fits: its order is growth, stop, van, place, place of the drop. */
    private record Candidate(int growth, int stop, int van, int i, int j, List<List<Integer>> next) {
    }

    private List<Candidate> candidates(List<List<Integer>> now) {
        List<Candidate> all = new ArrayList<>();
        int before = costOf(now);
        for (int s = 0; s < stops.size(); s++) {
            if (stops.get(s).kind == 2 || vanOf(now, s) != NONE) continue;
            int mate = stops.get(s).mate;
            for (int v = 0; v < vans.size(); v++) {
                int n = now.get(v).size();
                for (int i = 0; i <= n; i++) {
                    for (int j = 0; j <= (mate == NONE ? 0 : n + 1); j++) {
                        List<List<Integer>> next = copyOf(now);
                        next.get(v).add(i, s);
                        if (mate != NONE) next.get(v).add(j, mate);
                        if (report(v, next.get(v)).why != 0) continue;
                        all.add(new Candidate(costOf(next) - before, s, v, i, j, next));
                    }
                }
            }
        }
        return all;
    }

    int build() {
        List<List<Integer>> now = plan;
        while (true) {
            List<Candidate> all = candidates(now);
            if (all.isEmpty()) break;
            all.sort(Comparator.comparingInt(Candidate::growth).thenComparingInt(Candidate::stop)
                    .thenComparingInt(Candidate::van).thenComparingInt(Candidate::i).thenComparingInt(Candidate::j));
            now = all.get(0).next();
        }
        int put = sizeOf(now) - sizeOf(plan);
        adopt(now);
        return put;
    }

    private static int sizeOf(List<List<Integer>> plan) {
        int n = 0;
        for (List<Integer> round : plan) n += round.size();
        return n;
    }

    private List<List<Integer>> firstBetter(List<List<Integer>> now) {
        int cost = costOf(now);
        for (int s = 0; s < stops.size(); s++) {
            if (vanOf(now, s) == NONE) continue;
            for (int v = 0; v < vans.size(); v++) {
                for (int i = 0; i <= 12; i++) {
                    List<List<Integer>> next = copyOf(now);
                    for (List<Integer> round : next) round.remove((Integer) s);
                    if (i > next.get(v).size()) break;
                    next.get(v).add(i, s);
                    if (allFit(next) && costOf(next) < cost) return next;
                }
            }
        }
        return null;
    }

    int better(int n) {
        if (n < 0) return BELOW;
        if (n > 100) return NO;
        List<List<Integer>> now = plan;
        int done = 0;
        while (done < n) {
            List<List<Integer>> next = firstBetter(now);
            if (next == null) break;
            now = next;
            done++;
        }
        adopt(now);
        return done;
    }

    private void allPlans(List<Integer> numbers, int vansEnded, List<List<Integer>> found) {
        if (vansEnded == vans.size()) {
            found.add(new ArrayList<>(numbers));
            return;
        }
        for (int s = -1; s < stops.size(); s++) {
            if (s >= 0 && numbers.contains(s)) continue;
            numbers.add(s < 0 ? 99 : s);
            allPlans(numbers, vansEnded + (s < 0 ? 1 : 0), found);
            numbers.remove(numbers.size() - 1);
        }
    }

    private static List<List<Integer>> planOf(List<Integer> numbers) {
        List<List<Integer>> plan = emptyPlan();
        int van = 0;
        for (int x : numbers) {
            if (x == 99) van++;
            else plan.get(van).add(x);
        }
        return plan;
    }

    private int mustsOf(List<Integer> numbers) {
        int n = 0;
        for (int x : numbers) if (x != 99 && stops.get(x).kind == 4) n++;
        return n;
    }

    private static int compareRows(List<Integer> a, List<Integer> b) {
        for (int k = 0; k < Math.min(a.size(), b.size()); k++) {
            if (!a.get(k).equals(b.get(k))) return a.get(k) - b.get(k);
        }
        return 0;
    }

    int least() {
        if (stops.size() > 5 || vans.size() > 2) return FULL;
        List<List<Integer>> found = new ArrayList<>();
        allPlans(new ArrayList<>(), 0, found);
        List<List<Integer>> fitting = new ArrayList<>();
        for (List<Integer> numbers : found) if (allFit(planOf(numbers))) fitting.add(numbers);
        Comparator<List<Integer>> order = Comparator.comparingInt((List<Integer> x) -> -mustsOf(x));
        order = order.thenComparingInt(x -> -x.size()).thenComparingInt(x -> costOf(planOf(x)));
        adopt(planOf(fitting.stream().min(order.thenComparing(Oracle::compareRows)).get()));
        return sizeOf(plan);
    }

    int undo() {
        if (past.isEmpty()) return MISSING;
        plan = past.removeLast();
        return costOf(plan);
    }

    int clear() {
        int n = sizeOf(plan);
        adopt(emptyPlan());
        return n;
    }

    int count(int what) {
        int musts = 0, free = 0, waiting = 0, late = 0;
        for (int s = 0; s < stops.size(); s++) {
            if (vanOf(plan, s) != NONE) continue;
            free++;
            if (stops.get(s).kind == 4) musts++;
        }
        for (int v = 0; v < vans.size(); v++) {
            Report r = report(v, plan.get(v));
            waiting += r.waiting;
            late += r.late;
        }
        if (!in(what, 0, 6)) return NO;
        return new int[] {stops.size(), vans.size(), free, musts, past.size(), waiting, late}[what];
    }

    // ---- rows

    int lay(int van) {
        if (!isVan(van)) return BEYOND;
        row = new ArrayList<>();
        Report r = report(van, plan.get(van));
        for (int[] times : r.times) row.add(times[1]);
        return row.size();
    }

    int tear() {
        int was = row == null ? 0 : 1;
        row = null;
        return was;
    }

    int row(int i) {
        if (row == null) return MISSING;
        return in(i, 0, row.size() - 1) ? row.get(i) : BEYOND;
    }

    int copy(int i, int j, int n) {
        if (row == null) return MISSING;
        if (n < 0) return BELOW;
        if (i < 0 || j < 0 || (long) i + n > row.size() || (long) j + n > row.size()) return COPY;
        List<Integer> old = new ArrayList<>(row);
        for (int k = 0; k < n; k++) row.set(j + k, old.get(i + k));
        return n;
    }

    int status(int by) {
        return in(by, -8, -2) ? tally[-by] : NO;
    }
}
