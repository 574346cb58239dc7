/**
 * The office of a yard that sends vans round a town. What each call does and answers is promised,
 * number by number, in the document; this class adds nothing to it. Every refusal is an answer
 * below -1, and a refused call leaves everything but the tally of refusals as it was.
 */
public final class VanRounds {
    public static final int NONE = -1;
    public static final int MISSING = -2;
    public static final int BEYOND = -3;
    public static final int BELOW = -4;
    public static final int KIND = -5;
    public static final int COPY = -6;
    public static final int NO = -7;
    public static final int FULL = -8;

    private static final int PLACES = 8;
    private static final int YARD = 0;
    private static final int HOURS = 8;
    private static final int HOUR = 60;
    private static final int DAY = HOURS * HOUR;
    private static final int SLOWEST = 99;
    private static final int NEVER = 1000000;
    private static final int SLOTS = 64;

    private static final int MOST_STOPS = 12;
    private static final int MOST_VANS = 3;
    private static final int MOST_UNDOS = 20;
    private static final int MOST_SERVE = 60;
    private static final int MOST_AMOUNT = 50;
    private static final int MOST_PRICE = 9;
    private static final int MOST_LOAD = 200;
    private static final int MOST_FEE = 500;
    private static final int MOST_BETTER = 100;
    private static final int LEAST_STOPS = 5;
    private static final int LEAST_VANS = 2;

    private static final int FETCH = 1;
    private static final int DROP = 2;
    private static final int SOFT = 3;
    private static final int MUST = 4;

    private static final int FITS = 0;
    private static final int UNPAIRED = 1;
    private static final int OVERLOADED = 2;
    private static final int TOO_LATE = 3;
    private static final int NOT_BACK = 4;

    /** What one number tells of two: a SPAN or SHIFT, KIND and PLACE, SERVE and AMOUNT. */
    private static final int SPAN_BASE = 1000;
    private static final int KIND_BASE = 10;
    private static final int SERVE_BASE = 100;

    private final Planner planner = new Planner();
    private final Plan draft = planner.draft;
    private final Trip trip = planner.trip;
    private final Town town = trip.town;
    private final Stops stops = trip.stops;
    private final Vans vans = trip.vans;
    private final Plan plan = new Plan();
    private final Past past = new Past();
    private final int[] numbers = new int[MOST_STOPS];
    private int rowSize = NONE;
    private int latestWhere = NONE;
    private final int[] refusals = new int[-FULL + 1];

    public VanRounds() {
    }

    // ---- the town

    public int street(int a, int b, int m) {
        if (!isPlace(a) || !isPlace(b)) return refuse(BEYOND);
        if (m < 0 || m > SLOWEST || a == b) return refuse(NO);
        int before = town.hasStreet(a, b) ? 1 : 0;
        town.remember(a, b);
        town.setDay(a, b, m);
        if (trip.total(plan) == NONE) {
            town.restore(a, b);
            return refuse(NO);
        }
        past.forget();
        return before;
    }

    public int slow(int a, int b, int hour, int m) {
        if (!isPlace(a) || !isPlace(b) || hour < 0 || hour >= HOURS) return refuse(BEYOND);
        if (!town.hasStreet(a, b)) return refuse(MISSING);
        if (m < 1 || m > SLOWEST) return refuse(NO);
        int before = town.minutes(a, b, hour);
        town.setHour(a, b, hour, m);
        if (trip.total(plan) == NONE) {
            town.setHour(a, b, hour, before);
            return refuse(NO);
        }
        past.forget();
        return before;
    }

    public int way(int a, int b, int minute) {
        if (!isPlace(a) || !isPlace(b) || minute < 0 || minute >= DAY) return refuse(BEYOND);
        int come = town.comes(a, b, minute);
        return come >= NEVER ? NONE : come;
    }

    // ---- stops and vans

    public int stop(int told, int span, int serve, int fetch) {
        if (told < 0 || !isPlace(told % KIND_BASE)) return refuse(BEYOND);
        int kind = told / KIND_BASE;
        if (kind == DROP) {
            if (!stops.has(fetch)) return refuse(BEYOND);
            if (stops.kind[fetch] != FETCH) return refuse(KIND);
            if (stops.mate[fetch] != NONE || plan.vanWith(fetch) != NONE) return refuse(NO);
        }
        if (kind > MUST || !isSpan(span) || !isService(serve, kind)) return refuse(NO);
        if (stops.total >= MOST_STOPS) return refuse(FULL);
        int stop = stops.add(kind, told % KIND_BASE, serve);
        stops.setSpan(stop, span);
        if (kind == DROP) stops.join(fetch, stop);
        past.forget();
        return stop;
    }

    public int span(int stop, int span) {
        if (!stops.has(stop)) return refuse(BEYOND);
        if (!isSpan(span)) return refuse(NO);
        int before = SPAN_BASE * stops.from[stop] + stops.to[stop];
        stops.setSpan(stop, span);
        if (trip.total(plan) == NONE) {
            stops.setSpan(stop, before);
            return refuse(NO);
        }
        past.forget();
        return before;
    }

    public int price(int stop, int price) {
        if (!stops.has(stop)) return refuse(BEYOND);
        if (stops.kind[stop] != SOFT) return refuse(KIND);
        if (price < 1 || price > MOST_PRICE) return refuse(NO);
        int before = stops.price[stop];
        stops.price[stop] = price;
        past.forget();
        return before;
    }

    public int van(int load, int shift, int fee) {
        if (load < 1 || load > MOST_LOAD || !isSpan(shift)) return refuse(NO);
        if (fee < 0 || fee > MOST_FEE) return refuse(NO);
        if (vans.total >= MOST_VANS) return refuse(FULL);
        int van = vans.add(load, fee);
        vans.setShift(van, shift);
        past.forget();
        return van;
    }

    public int shift(int van, int shift) {
        if (!vans.has(van)) return refuse(BEYOND);
        if (!isSpan(shift)) return refuse(NO);
        int before = SPAN_BASE * vans.from[van] + vans.to[van];
        vans.setShift(van, shift);
        if (trip.total(plan) == NONE) {
            vans.setShift(van, before);
            return refuse(NO);
        }
        past.forget();
        return before;
    }

    public int look(int stop, int what) {
        if (!stops.has(stop)) return refuse(BEYOND);
        switch (what) {
            case 0: return stops.kind[stop];
            case 1: return stops.place[stop];
            case 2: return stops.amount[stop];
            case 3: return stops.serve[stop];
            case 4: return stops.mate[stop];
            case 5: return plan.vanWith(stop);
            case 6: return plan.placeOf(stop);
            default: return refuse(NO);
        }
    }

    // ---- rounds

    public int round(int van, int i) {
        if (!vans.has(van)) return refuse(BEYOND);
        if (i == NONE) return plan.sizes[van];
        if (i < 0 || i >= plan.sizes[van]) return refuse(BEYOND);
        return plan.rounds[van][i];
    }

    public int when(int van, int i, int what) {
        if (!vans.has(van)) return refuse(BEYOND);
        int size = plan.sizes[van];
        if (i < 0 || i > size || size == 0) return refuse(BEYOND);
        if (what < 0 || what > 3 || i == size && what != 0) return refuse(NO);
        trip.judge(plan, van);
        if (i == size) return trip.back;
        if (what == 0) return trip.come[i];
        if (what == 1) return trip.begin[i];
        return what == 2 ? trip.leave[i] : trip.aboard[i];
    }

    public int cost(int van) {
        if (van == NONE) return trip.total(plan);
        if (!vans.has(van)) return refuse(BEYOND);
        trip.judge(plan, van);
        return trip.expense;
    }

    public int why(int stop, int van, int i) {
        if (!stops.has(stop) || !isGap(van, i)) return refuse(BEYOND);
        if (plan.vanWith(stop) != NONE) return refuse(NO);
        draft.become(plan);
        draft.insert(van, i, stop);
        int why = trip.judge(draft, van);
        latestWhere = trip.fault;
        return why;
    }

    public int where() {
        return latestWhere;
    }

    // ---- changes

    public int put(int stop, int van, int i) {
        if (!stops.has(stop) || !isGap(van, i)) return refuse(BEYOND);
        if (plan.vanWith(stop) != NONE) return refuse(NO);
        draft.become(plan);
        draft.insert(van, i, stop);
        return settle();
    }

    public int pair(int stop, int van, int i, int j) {
        if (!stops.has(stop) || !vans.has(van)) return refuse(BEYOND);
        if (stops.kind[stop] != FETCH) return refuse(KIND);
        int drop = stops.mate[stop];
        if (drop == NONE) return refuse(MISSING);
        if (!isGap(van, i) || j < 0 || j > plan.sizes[van] + 1) return refuse(BEYOND);
        if (plan.vanWith(stop) != NONE) return refuse(NO);
        draft.become(plan);
        draft.insert(van, i, stop);
        draft.insert(van, j, drop);
        return settle();
    }

    public int take(int stop) {
        if (!stops.has(stop)) return refuse(BEYOND);
        if (plan.vanWith(stop) == NONE) return refuse(NO);
        draft.become(plan);
        draft.remove(stop);
        if (stops.mate[stop] != NONE) draft.remove(stops.mate[stop]);
        return settle();
    }

    public int move(int stop, int van, int i) {
        if (!stops.has(stop) || !vans.has(van)) return refuse(BEYOND);
        int home = plan.vanWith(stop);
        if (home == NONE) return refuse(NO);
        int last = plan.sizes[van] - (home == van ? 1 : 0);
        if (i < 0 || i > last) return refuse(BEYOND);
        draft.become(plan);
        draft.remove(stop);
        draft.insert(van, i, stop);
        return settle();
    }

    public int cross(int van, int i, int other, int j) {
        if (!isGap(van, i) || !isGap(other, j)) return refuse(BEYOND);
        if (van == other) return refuse(NO);
        draft.become(plan);
        draft.takeEnd(van, i, plan, other, j);
        draft.takeEnd(other, j, plan, van, i);
        return settle();
    }

    public int turn(int van, int i, int j) {
        if (!vans.has(van) || !isTaken(van, i) || !isTaken(van, j)) return refuse(BEYOND);
        if (i >= j) return refuse(NO);
        draft.become(plan);
        draft.reverse(van, i, j);
        return settle();
    }

    public int build() {
        draft.become(plan);
        int before = draft.size();
        for (int step = 0; step < MOST_STOPS; step++) {
            if (!planner.findPut()) break;
            planner.doPut();
        }
        adopt();
        return draft.size() - before;
    }

    public int better(int n) {
        if (n < 0) return refuse(BELOW);
        if (n > MOST_BETTER) return refuse(NO);
        draft.become(plan);
        int done = 0;
        while (done < n && planner.improve()) done++;
        adopt();
        return done;
    }

    public int least() {
        if (stops.total > LEAST_STOPS || vans.total > LEAST_VANS) return refuse(FULL);
        planner.seekLeast();
        adopt();
        return draft.size();
    }

    public int undo() {
        if (past.held == 0) return refuse(MISSING);
        past.bringBack(plan);
        return trip.total(plan);
    }

    public int clear() {
        draft.empty();
        int gone = plan.size();
        adopt();
        return gone;
    }

    public int count(int what) {
        switch (what) {
            case 0: return stops.total;
            case 1: return vans.total;
            case 2: return stops.total - plan.size();
            case 3: return stops.musts() - trip.mustsIn(plan);
            case 4: return past.held;
            case 5: return totalWaiting();
            case 6: return totalLateness();
            default: return refuse(NO);
        }
    }

    // ---- rows

    public int lay(int van) {
        if (!vans.has(van)) return refuse(BEYOND);
        trip.judge(plan, van);
        rowSize = plan.sizes[van];
        System.arraycopy(trip.begin, 0, numbers, 0, rowSize);
        return rowSize;
    }

    public int tear() {
        if (rowSize == NONE) return 0;
        rowSize = NONE;
        return 1;
    }

    public int row(int i) {
        if (rowSize == NONE) return refuse(MISSING);
        if (i < 0 || i >= rowSize) return refuse(BEYOND);
        return numbers[i];
    }

    public int copy(int i, int j, int n) {
        if (rowSize == NONE) return refuse(MISSING);
        if (n < 0) return refuse(BELOW);
        if (i < 0 || j < 0) return refuse(COPY);
        if ((long) i + n > rowSize || (long) j + n > rowSize) return refuse(COPY);
        System.arraycopy(numbers, i, numbers, j, n);
        return n;
    }

    public int status(int by) {
        if (by > MISSING || by < FULL) return refuse(NO);
        return refusals[-by];
    }

    // ---- what the calls share

    private int refuse(int answer) {
        refusals[-answer]++;
        return answer;
    }

    /** THE PLAN becomes the draft if that fits: the new cost, or a refusal. */
    private int settle() {
        int total = trip.total(draft);
        if (total == NONE) return refuse(NO);
        adopt();
        return total;
    }

    /** A draft that differs in nothing is no change, so it leaves nothing to take back. */
    private void adopt() {
        if (draft.isLike(plan)) return;
        past.keep(plan);
        plan.become(draft);
    }

    private int totalWaiting() {
        int total = 0;
        for (int van = 0; van < vans.total; van++) {
            trip.judge(plan, van);
            total += trip.waiting;
        }
        return total;
    }

    private int totalLateness() {
        int total = 0;
        for (int van = 0; van < vans.total; van++) {
            trip.judge(plan, van);
            total += trip.lateness;
        }
        return total;
    }

    /** A gap of a round: ahead of one of its stops, or behind the last. */
    private boolean isGap(int van, int i) {
        return vans.has(van) && i >= 0 && i <= plan.sizes[van];
    }

    private boolean isTaken(int van, int i) {
        return i >= 0 && i < plan.sizes[van];
    }

    private static boolean isPlace(int place) {
        return place >= 0 && place < PLACES;
    }

    private static boolean isSpan(int span) {
        if (span < 0) return false;
        int from = span / SPAN_BASE;
        int to = span % SPAN_BASE;
        return to < DAY && from <= to;
    }

    private static boolean isService(int serve, int kind) {
        if (serve < 0 || serve / SERVE_BASE > MOST_SERVE) return false;
        return kind == DROP || serve % SERVE_BASE <= MOST_AMOUNT;
    }

    /** The streets, and when one comes by them. */
    private static final class Town {
        private final int[] takes = new int[PLACES * PLACES * HOURS];
        /** By street and hour: when one comes who waits for the best of the later hours. */
        private final int[] later = new int[PLACES * PLACES * HOURS];
        private final int[] remembered = new int[HOURS];

        /** Ways are asked for again and again: each slot keeps all that leave a place at a minute. */
        private final int[] comings = new int[PLACES * SLOTS * PLACES];
        private final int[] labels = new int[PLACES * SLOTS];
        /** Part of each slot's label, so that with a new age all that the slots keep is void. */
        private int age = 1;

        private int first(int a, int b) {
            return (a * PLACES + b) * HOURS;
        }

        boolean hasStreet(int a, int b) {
            return takes[first(a, b)] != 0;
        }

        int minutes(int a, int b, int hour) {
            return takes[first(a, b) + hour];
        }

        void setHour(int a, int b, int hour, int m) {
            takes[first(a, b) + hour] = m;
            takes[first(b, a) + hour] = m;
            reckon(a, b);
        }

        void setDay(int a, int b, int m) {
            for (int hour = 0; hour < HOURS; hour++) {
                takes[first(a, b) + hour] = m;
                takes[first(b, a) + hour] = m;
            }
            reckon(a, b);
        }

        void remember(int a, int b) {
            System.arraycopy(takes, first(a, b), remembered, 0, HOURS);
        }

        void restore(int a, int b) {
            System.arraycopy(remembered, 0, takes, first(a, b), HOURS);
            System.arraycopy(remembered, 0, takes, first(b, a), HOURS);
            reckon(a, b);
        }

        private void reckon(int a, int b) {
            int least = NEVER;
            for (int hour = HOURS - 1; hour >= 0; hour--) {
                later[first(a, b) + hour] = least;
                later[first(b, a) + hour] = least;
                least = Math.min(least, hour * HOUR + minutes(a, b, hour));
            }
            age++;
        }

        /** When one comes by a way, or NEVER. */
        int comes(int from, int to, int minute) {
            if (from == to) return minute;
            if (minute >= DAY) return NEVER;
            int slot = from * SLOTS + minute % SLOTS;
            int label = age * DAY + minute;
            if (labels[slot] != label) {
                walk(from, minute, slot * PLACES);
                labels[slot] = label;
            }
            return comings[slot * PLACES + to];
        }

        /**
         * Goes over all streets till no place is come to sooner. Nobody is overtaken on one, so the
         * best way passes no place twice: to go over them as often as there are places is enough.
         */
        private void walk(int from, int minute, int base) {
            for (int place = 0; place < PLACES; place++) comings[base + place] = NEVER;
            comings[base + from] = minute;
            boolean sooner = true;
            for (int round = 0; round < PLACES && sooner; round++) {
                sooner = false;
                for (int place = 0; place < PLACES; place++) {
                    int out = comings[base + place];
                    if (out >= DAY) continue;
                    int street = place * PLACES * HOURS + out / HOUR;
                    for (int to = 0; to < PLACES; to++, street += HOURS) {
                        if (takes[street] == 0) continue;
                        int come = Math.min(out + takes[street], later[street]);
                        if (come >= comings[base + to]) continue;
                        comings[base + to] = come;
                        sooner = true;
                    }
                }
            }
        }
    }

    private static final class Stops {
        private int total;
        private final int[] kind = new int[MOST_STOPS];
        private final int[] place = new int[MOST_STOPS];
        private final int[] from = new int[MOST_STOPS];
        private final int[] to = new int[MOST_STOPS];
        private final int[] serve = new int[MOST_STOPS];
        private final int[] amount = new int[MOST_STOPS];
        private final int[] mate = new int[MOST_STOPS];
        private final int[] price = new int[MOST_STOPS];

        boolean has(int stop) {
            return stop >= 0 && stop < total;
        }

        int add(int kindTold, int placeTold, int serveTold) {
            int stop = total;
            total++;
            kind[stop] = kindTold;
            place[stop] = placeTold;
            serve[stop] = serveTold / SERVE_BASE;
            amount[stop] = serveTold % SERVE_BASE;
            mate[stop] = NONE;
            price[stop] = 1;
            return stop;
        }

        void join(int fetch, int drop) {
            mate[fetch] = drop;
            mate[drop] = fetch;
            amount[drop] = amount[fetch];
        }

        void setSpan(int stop, int span) {
            from[stop] = span / SPAN_BASE;
            to[stop] = span % SPAN_BASE;
        }

        boolean isAboardAtFirst(int stop) {
            return kind[stop] != FETCH && kind[stop] != DROP;
        }

        int musts() {
            int musts = 0;
            for (int stop = 0; stop < total; stop++) {
                if (kind[stop] == MUST) musts++;
            }
            return musts;
        }
    }

    private static final class Vans {
        private int total;
        private final int[] load = new int[MOST_VANS];
        private final int[] from = new int[MOST_VANS];
        private final int[] to = new int[MOST_VANS];
        private final int[] fee = new int[MOST_VANS];

        boolean has(int van) {
            return van >= 0 && van < total;
        }

        int add(int loadTold, int feeTold) {
            int van = total;
            total++;
            load[van] = loadTold;
            fee[van] = feeTold;
            return van;
        }

        void setShift(int van, int shift) {
            from[van] = shift / SPAN_BASE;
            to[van] = shift % SPAN_BASE;
        }
    }

    /** Which stops stand in which round, in their order. */
    private static final class Plan {
        private final int[][] rounds = new int[MOST_VANS][MOST_STOPS];
        private final int[] sizes = new int[MOST_VANS];

        int size() {
            return sizes[0] + sizes[1] + sizes[2];
        }

        void empty() {
            for (int van = 0; van < MOST_VANS; van++) sizes[van] = 0;
        }

        void become(Plan other) {
            for (int van = 0; van < MOST_VANS; van++) {
                sizes[van] = other.sizes[van];
                System.arraycopy(other.rounds[van], 0, rounds[van], 0, sizes[van]);
            }
        }

        boolean isLike(Plan other) {
            for (int van = 0; van < MOST_VANS; van++) {
                if (sizes[van] != other.sizes[van]) return false;
                for (int i = 0; i < sizes[van]; i++) {
                    if (rounds[van][i] != other.rounds[van][i]) return false;
                }
            }
            return true;
        }

        int vanWith(int stop) {
            for (int van = 0; van < MOST_VANS; van++) {
                for (int i = 0; i < sizes[van]; i++) {
                    if (rounds[van][i] == stop) return van;
                }
            }
            return NONE;
        }

        /** The place in its round; NONE for a stop that is in no round. */
        int placeOf(int stop) {
            for (int van = 0; van < MOST_VANS; van++) {
                for (int i = 0; i < sizes[van]; i++) {
                    if (rounds[van][i] == stop) return i;
                }
            }
            return NONE;
        }

        void insert(int van, int i, int stop) {
            int size = sizes[van];
            if (size >= MOST_STOPS || i < 0 || i > size) return;
            System.arraycopy(rounds[van], i, rounds[van], i + 1, size - i);
            rounds[van][i] = stop;
            sizes[van] = size + 1;
        }

        void removeAt(int van, int i) {
            int size = sizes[van];
            if (i < 0 || i >= size) return;
            System.arraycopy(rounds[van], i + 1, rounds[van], i, size - i - 1);
            sizes[van] = size - 1;
        }

        void remove(int stop) {
            int van = vanWith(stop);
            if (van != NONE) removeAt(van, placeOf(stop));
        }

        /** The round keeps its first i stops and goes on as another plan's round does from j on. */
        void takeEnd(int van, int i, Plan other, int otherVan, int j) {
            int end = other.sizes[otherVan] - j;
            if (i < 0 || j < 0 || end < 0 || i + end > MOST_STOPS) return;
            System.arraycopy(other.rounds[otherVan], j, rounds[van], i, end);
            sizes[van] = i + end;
        }

        void reverse(int van, int i, int j) {
            int[] row = rounds[van];
            int low = i;
            int high = j;
            while (low < high) {
                int stop = row[low];
                row[low] = row[high];
                row[high] = stop;
                low++;
                high--;
            }
        }
    }

    /** The plans that undo() goes back to, in a ring: the oldest gives way to the newest. */
    private static final class Past {
        private final Plan[] plans = new Plan[MOST_UNDOS];
        private int newest;
        private int held;

        Past() {
            for (int k = 0; k < MOST_UNDOS; k++) plans[k] = new Plan();
        }

        void forget() {
            held = 0;
        }

        void keep(Plan plan) {
            newest = (newest + 1) % MOST_UNDOS;
            plans[newest].become(plan);
            if (held < MOST_UNDOS) held++;
        }

        void bringBack(Plan plan) {
            if (held == 0) return;
            plan.become(plans[newest]);
            newest = (newest + MOST_UNDOS - 1) % MOST_UNDOS;
            held--;
        }
    }

    /** Drives one round of a plan through the town, and tells whether it fits. */
    private static final class Trip {
        private final Town town = new Town();
        private final Stops stops = new Stops();
        private final Vans vans = new Vans();
        private final int[] come = new int[MOST_STOPS];
        private final int[] begin = new int[MOST_STOPS];
        private final int[] leave = new int[MOST_STOPS];
        private final int[] aboard = new int[MOST_STOPS];
        private int back;
        private int fault;
        private int expense;
        private int waiting;
        private int lateness;

        /** WHY the round doesn't fit, or FITS; what it costs stands only behind FITS. */
        int judge(Plan plan, int van) {
            int[] row = plan.rounds[van];
            int size = plan.sizes[van];
            fault = NONE;
            expense = 0;
            waiting = 0;
            lateness = 0;
            if (size == 0) return FITS;
            if (!isPaired(row, size)) return UNPAIRED;
            if (!isCarried(van, row, size)) return OVERLOADED;
            if (!isInTime(van, row, size)) return TOO_LATE;
            if (!isBack(van, row, size)) return NOT_BACK;
            expense += back - vans.from[van] + vans.fee[van];
            return FITS;
        }

        /** What all rounds cost, or NONE if one doesn't fit. */
        int total(Plan plan) {
            int total = 0;
            for (int van = 0; van < vans.total; van++) {
                if (judge(plan, van) != FITS) return NONE;
                total += expense;
            }
            return total;
        }

        int mustsIn(Plan plan) {
            int musts = 0;
            for (int van = 0; van < vans.total; van++) {
                for (int i = 0; i < plan.sizes[van]; i++) {
                    if (stops.kind[plan.rounds[van][i]] == MUST) musts++;
                }
            }
            return musts;
        }

        private boolean isPaired(int[] row, int size) {
            int all = 0;
            for (int i = 0; i < size; i++) all |= 1 << row[i];
            int ahead = 0;
            for (int i = 0; i < size; i++) {
                int stop = row[i];
                int mate = stops.mate[stop];
                int asked = stops.kind[stop] == DROP ? ahead : all;
                if (mate != NONE && (asked >> mate & 1) == 0) {
                    fault = i;
                    return false;
                }
                ahead |= 1 << stop;
            }
            return true;
        }

        private boolean isCarried(int van, int[] row, int size) {
            int load = 0;
            for (int i = 0; i < size; i++) {
                if (stops.isAboardAtFirst(row[i])) load += stops.amount[row[i]];
            }
            if (load > vans.load[van]) return false;
            for (int i = 0; i < size; i++) {
                int amount = stops.amount[row[i]];
                load += stops.kind[row[i]] == FETCH ? amount : -amount;
                aboard[i] = load;
                if (load > vans.load[van]) {
                    fault = i;
                    return false;
                }
            }
            return true;
        }

        private boolean isInTime(int van, int[] row, int size) {
            int place = YARD;
            int minute = vans.from[van];
            for (int i = 0; i < size; i++) {
                int stop = row[i];
                come[i] = town.comes(place, stops.place[stop], minute);
                begin[i] = Math.max(come[i], stops.from[stop]);
                leave[i] = begin[i] + stops.serve[stop];
                int late = Math.max(begin[i] - stops.to[stop], 0);
                if (begin[i] >= DAY || late > 0 && stops.kind[stop] != SOFT) {
                    fault = i;
                    return false;
                }
                waiting += begin[i] - come[i];
                lateness += late;
                expense += late * stops.price[stop] - stops.serve[stop];
                place = stops.place[stop];
                minute = leave[i];
            }
            return true;
        }

        private boolean isBack(int van, int[] row, int size) {
            int last = size - 1;
            back = town.comes(stops.place[row[last]], YARD, leave[last]);
            if (back <= vans.to[van]) return true;
            fault = size;
            return false;
        }
    }

    /** Looks for puts, moves and whole plans that cost least. */
    private static final class Planner {
        private final Trip trip = new Trip();
        private final Stops stops = trip.stops;
        private final Vans vans = trip.vans;
        private final Plan draft = new Plan();

        private int putStop;
        private int putVan;
        private int putPlace;
        private int putDropPlace;
        private int putGrowth;

        private final Plan leastPlan = new Plan();
        private int leastMusts;
        private int leastSize;
        private int leastCost;

        /** Finds the put by which the draft's cost grows least: false if there is none. */
        boolean findPut() {
            putStop = NONE;
            for (int stop = 0; stop < stops.total; stop++) {
                if (stops.kind[stop] == DROP || draft.vanWith(stop) != NONE) continue;
                for (int van = 0; van < vans.total; van++) tryPuts(stop, van);
            }
            return putStop != NONE;
        }

        void doPut() {
            if (!stops.has(putStop)) return;
            draft.insert(putVan, putPlace, putStop);
            int drop = stops.mate[putStop];
            if (drop != NONE) draft.insert(putVan, putDropPlace, drop);
        }

        private void tryPuts(int stop, int van) {
            trip.judge(draft, van);
            int before = trip.expense;
            int drop = stops.mate[stop];
            int size = draft.sizes[van];
            for (int i = 0; i <= size; i++) {
                draft.insert(van, i, stop);
                if (drop == NONE) {
                    if (trip.judge(draft, van) == FITS) weighPut(stop, van, i, NONE, before);
                } else {
                    // a drop at place i or ahead of it would stand ahead of its fetch
                    for (int j = i + 1; j <= size + 1; j++) {
                        draft.insert(van, j, drop);
                        if (trip.judge(draft, van) == FITS) weighPut(stop, van, i, j, before);
                        draft.removeAt(van, j);
                    }
                }
                draft.removeAt(van, i);
            }
        }

        /** Puts are tried from the least numbers on, so of equal ones the first is kept. */
        private void weighPut(int stop, int van, int i, int j, int before) {
            int growth = trip.expense - before;
            if (putStop != NONE && growth >= putGrowth) return;
            putStop = stop;
            putVan = van;
            putPlace = i;
            putDropPlace = j;
            putGrowth = growth;
        }

        /** Does the first move by which the draft costs less: false if there is none. */
        boolean improve() {
            for (int stop = 0; stop < stops.total; stop++) {
                int home = draft.vanWith(stop);
                if (home != NONE && moveToLess(stop, home)) return true;
            }
            return false;
        }

        private boolean moveToLess(int stop, int home) {
            int place = draft.placeOf(stop);
            trip.judge(draft, home);
            int before = trip.expense;
            draft.removeAt(home, place);
            boolean leaves = trip.judge(draft, home) == FITS;
            int freed = before - trip.expense;
            for (int van = 0; van < vans.total; van++) {
                if (van != home && !leaves) continue;
                trip.judge(draft, van);
                int bound = van == home ? before : trip.expense + freed;
                for (int i = 0; i <= draft.sizes[van]; i++) {
                    draft.insert(van, i, stop);
                    if (trip.judge(draft, van) == FITS && trip.expense < bound) return true;
                    draft.removeAt(van, i);
                }
            }
            draft.insert(home, place, stop);
            return false;
        }

        /** The draft becomes the best of all plans. */
        void seekLeast() {
            leastPlan.empty();
            leastMusts = NONE;
            draft.empty();
            extend(0, 0, 0);
            draft.become(leastPlan);
        }

        /**
         * Tries all that may stand behind what the round of a van has so far. The plans come in the
         * order of their rows of numbers: the next stops from the least on, and at last the 99.
         */
        private void extend(int van, int spent, int depth) {
            if (van >= vans.total || depth > LEAST_STOPS + LEAST_VANS) return;
            int why = trip.judge(draft, van);
            // no stop behind them mends these two
            if (why == OVERLOADED || why == TOO_LATE) return;
            int cost = spent + trip.expense;
            int size = draft.sizes[van];
            for (int stop = 0; stop < stops.total; stop++) {
                if (draft.vanWith(stop) != NONE) continue;
                draft.insert(van, size, stop);
                extend(van, spent, depth + 1);
                draft.removeAt(van, size);
            }
            if (why != FITS) return;
            if (van + 1 == vans.total) {
                weighPlan(cost);
            } else {
                extend(van + 1, cost, depth + 1);
            }
        }

        private void weighPlan(int cost) {
            int musts = trip.mustsIn(draft);
            int size = draft.size();
            if (musts < leastMusts) return;
            if (musts == leastMusts) {
                if (size < leastSize) return;
                if (size == leastSize && cost >= leastCost) return;
            }
            leastMusts = musts;
            leastSize = size;
            leastCost = cost;
            leastPlan.become(draft);
        }
    }
}
