/** What the document promises, promise by promise, with answers reckoned by hand. */
public final class PromisesTest {
    private static final int NONE = -1, MISSING = -2, BEYOND = -3, BELOW = -4, KIND = -5, COPY = -6, NO = -7, FULL = -8;
    private static final int ALL_DAY = 479;
    private static final int LOW = Integer.MIN_VALUE, HIGH = Integer.MAX_VALUE;

    private static int promise = 0;
    private static int wrong = 0;

    private static void due(String what, int got, int want) {
        if (got == want) return;
        wrong++;
        System.out.println("promise " + promise + ": " + what + " answered " + got + ", due is " + want);
    }

    private static void refused(int want, int... answers) {
        for (int k = 0; k < answers.length; k++) due("refusal " + k + " of a list", answers[k], want);
    }

    public static void main(String[] args) {
        Watchdog.start("PromisesTest");
        newObject();
        street();
        slow();
        way();
        stop();
        span();
        price();
        van();
        shift();
        look();
        round();
        when();
        cost();
        why();
        where();
        put();
        pair();
        take();
        move();
        cross();
        turn();
        build();
        better();
        least();
        undo();
        clear();
        count();
        lay();
        tear();
        row();
        copy();
        status();
        terms();
        System.out.println(wrong == 0 ? "all 32 promises are kept" : wrong + " answers are not as due");
        if (wrong != 0) System.exit(1);
    }

    /** Yard, then places 1, 2, 3 on a line, 10 minutes apart; a van all day, for nothing. */
    private static VanRounds line() {
        VanRounds x = new VanRounds();
        for (int place = 0; place < 3; place++) x.street(place, place + 1, 10);
        x.van(100, ALL_DAY, 0);
        return x;
    }

    /** The line with BRING stops 0, 1, 2 at places 1, 2, 3: serve 5, amount 10, span all day. */
    private static VanRounds three() {
        VanRounds x = line();
        for (int place = 1; place <= 3; place++) x.stop(place, ALL_DAY, 510, 0);
        return x;
    }

    /** The line with FETCH 0 at 1, its DROP 1 at 3, BRING 2 at 2, MUST 3 at 2, FETCH 4 alone at 1. */
    private static VanRounds mixed() {
        VanRounds x = line();
        x.stop(11, ALL_DAY, 220, 0);
        x.stop(23, ALL_DAY, 300, 0);
        x.stop(2, ALL_DAY, 410, 0);
        x.stop(42, ALL_DAY, 107, 0);
        x.stop(11, ALL_DAY, 5, 0);
        return x;
    }

    private static void rounds(String what, VanRounds x, int van, int... stops) {
        due(what + ": size of round " + van, x.round(van, NONE), stops.length);
        for (int i = 0; i < stops.length; i++) due(what + ": stop " + i + " of round " + van, x.round(van, i), stops[i]);
    }

    private static void newObject() {
        promise = 1;
        VanRounds x = new VanRounds();
        for (int what = 0; what <= 6; what++) due("count(" + what + ")", x.count(what), 0);
        for (int a = 0; a < 8; a++) {
            for (int b = 0; b < 8; b++) due("way " + a + " " + b, x.way(a, b, 3), a == b ? 3 : NONE);
        }
        due("cost", x.cost(NONE), 0);
        due("where", x.where(), NONE);
        for (int by = -8; by <= -2; by++) due("status(" + by + ")", x.status(by), 0);
        due("tear", x.tear(), 0);
        refused(BEYOND, x.look(0, 0), x.round(0, NONE), x.cost(0), x.lay(0));
        refused(MISSING, x.undo(), x.slow(0, 1, 0, 5), x.row(0));
    }

    private static void street() {
        promise = 2;
        VanRounds x = new VanRounds();
        due("first told", x.street(1, 2, 7), 0);
        due("told again, from the other side", x.street(2, 1, 9), 1);
        due("one way", x.way(1, 2, 100), 109);
        due("other way", x.way(2, 1, 100), 109);
        for (int hour = 0; hour < 8; hour++) due("hour " + hour, x.slow(1, 2, hour, 9), 9);
        due("told over a slow hour", x.slow(1, 2, 3, 50), 9);
        due("all hours anew", x.street(1, 2, 8), 1);
        due("hour 3 anew", x.slow(1, 2, 3, 8), 8);
        due("none any more", x.street(1, 2, 0), 1);
        due("no way", x.way(1, 2, 100), NONE);
        due("none where none was", x.street(1, 2, 0), 0);
        due("1 minute", x.street(7, 0, 1), 0);
        due("99 minutes", x.street(7, 0, 99), 1);
        refused(BEYOND, x.street(8, 0, 5), x.street(0, 8, 5), x.street(-1, 0, 5), x.street(0, -1, 5),
                x.street(8, 8, 5), x.street(-1, 0, 100), x.street(LOW, HIGH, 5));
        refused(NO, x.street(0, 1, 100), x.street(0, 1, -1), x.street(3, 3, 5), x.street(3, 3, 0),
                x.street(0, 1, HIGH), x.street(0, 1, LOW));
        due("refused, so none", x.street(0, 1, 0), 0);

        x = three();
        x.span(1, 25);
        x.put(0, 0, 0);
        x.put(1, 0, 1);
        x.slow(0, 1, 5, 77);
        due("a round fits yet", x.street(1, 2, 10), 1);
        due("comes too late then", x.street(1, 2, 11), NO);
        due("no way then", x.street(0, 1, 0), NO);
        due("is as it was", x.way(0, 2, 0), 20);
        due("each hour is as it was", x.slow(0, 1, 5, 10), 77);
        due("other side too", x.way(1, 0, 20), 30);
    }

    private static void slow() {
        promise = 3;
        VanRounds x = new VanRounds();
        x.street(0, 1, 20);
        due("hour 1", x.slow(0, 1, 1, 90), 20);
        due("hour 1 again, from the other side", x.slow(1, 0, 1, 80), 90);
        due("out in hour 0", x.way(0, 1, 59), 79);
        due("out in hour 1 waits for hour 2", x.way(0, 1, 60), 140);
        due("the other way too", x.way(1, 0, 61), 140);
        due("out in hour 2", x.way(0, 1, 120), 140);
        due("hour 7", x.slow(0, 1, 7, 1), 20);
        due("hour 0", x.slow(0, 1, 0, 99), 20);
        due("hour 0, waits for hour 2", x.way(0, 1, 50), 140);
        due("hour 0, as told", x.way(0, 1, 10), 109);
        refused(BEYOND, x.slow(8, 1, 0, 5), x.slow(0, 8, 0, 5), x.slow(-1, 1, 0, 5), x.slow(0, -1, 0, 5),
                x.slow(0, 1, 8, 5), x.slow(0, 1, -1, 5), x.slow(0, 2, 8, 0), x.slow(0, 1, HIGH, 5));
        refused(MISSING, x.slow(0, 2, 0, 5), x.slow(3, 3, 0, 5), x.slow(0, 2, 0, 0), x.slow(0, 2, 0, 100));
        refused(NO, x.slow(0, 1, 0, 0), x.slow(0, 1, 0, 100), x.slow(0, 1, 0, -5), x.slow(0, 1, 0, HIGH));
        due("refused, so as it was", x.slow(0, 1, 0, 98), 99);

        x = three();
        x.span(0, 12);
        x.put(0, 0, 0);
        due("a round fits yet", x.slow(0, 1, 0, 12), 10);
        due("too late then", x.slow(0, 1, 0, 13), NO);
        due("is as it was", x.slow(0, 1, 0, 11), 12);
        due("another hour does no harm", x.slow(0, 1, 3, 99), 10);
    }

    private static void way() {
        promise = 4;
        VanRounds x = new VanRounds();
        x.street(0, 1, 10);
        x.street(1, 2, 10);
        x.street(0, 2, 30);
        x.street(4, 5, 1);
        due("over two", x.way(0, 2, 0), 20);
        due("to itself", x.way(6, 6, 479), 479);
        due("to itself at 0", x.way(0, 0, 0), 0);
        due("over one", x.way(0, 1, 469), 479);
        due("setting out at 479 yet", x.way(0, 2, 469), 489);
        due("nobody sets out at 480", x.way(0, 2, 470), 500);
        due("nor later", x.way(0, 2, 479), 509);
        due("no other", x.way(0, 1, 479), 489);
        due("none", x.way(0, 4, 0), NONE);
        x.street(0, 2, 0);
        due("none any more so late", x.way(0, 2, 470), NONE);
        due("but before", x.way(0, 2, 469), 489);
        x.street(3, 4, 99);
        x.slow(3, 4, 1, 95);
        x.slow(3, 4, 2, 30);
        x.slow(3, 4, 5, 1);
        due("waits two hours", x.way(3, 4, 55), 150);
        due("as told in its hour", x.way(3, 4, 20), 119);
        due("as told, and waiting, are even", x.way(3, 4, 51), 150);
        due("waits for hour 5", x.way(3, 4, 230), 301);
        due("in hour 5", x.way(3, 4, 359), 360);
        due("in hour 6", x.way(3, 4, 360), 459);
        due("in hour 7", x.way(3, 4, 420), 519);
        due("and on by the next", x.way(3, 5, 55), 151);
        VanRounds far = new VanRounds();
        for (int place = 0; place < 7; place++) far.street(place, place + 1, 3);
        due("over all places", far.way(0, 7, 0), 21);
        due("and back", far.way(7, 0, 100), 121);
        refused(BEYOND, x.way(8, 0, 0), x.way(0, 8, 0), x.way(-1, 0, 0), x.way(0, -1, 0), x.way(0, 1, 480),
                x.way(0, 1, -1), x.way(2, 2, 480), x.way(LOW, LOW, LOW), x.way(HIGH, HIGH, HIGH));
    }

    private static void stop() {
        promise = 5;
        VanRounds x = new VanRounds();
        due("BRING", x.stop(0, 0, 0, -5), 0);
        due("FETCH", x.stop(17, 479479, 6050, 99), 1);
        due("SOFT", x.stop(31, 100200, 101, 0), 2);
        due("MUST", x.stop(42, ALL_DAY, 1, 0), 3);
        due("DROP, its amount doesn't matter", x.stop(20, ALL_DAY, 6099, 1), 4);
        refused(BEYOND, x.stop(-1, 0, 0, 0), x.stop(8, 0, 0, 0), x.stop(9, 0, 0, 0), x.stop(58, HIGH, 0, 0),
                x.stop(LOW, 0, 0, 0), x.stop(20, 0, 0, -1), x.stop(20, 0, 0, 5), x.stop(28, 0, 0, 1),
                x.stop(20, -1, -1, 5), x.stop(20, 0, 0, HIGH), x.stop(-10, 0, 0, 0));
        refused(KIND, x.stop(20, 0, 0, 0), x.stop(20, 0, 0, 2), x.stop(20, 0, 0, 3), x.stop(20, 0, 0, 4),
                x.stop(21, -1, 7000, 0));
        refused(NO, x.stop(50, 0, 0, 0), x.stop(107, 0, 0, 0), x.stop(HIGH, 0, 0, 0), x.stop(0, -1, 0, 0),
                x.stop(0, 480, 0, 0), x.stop(0, 200100, 0, 0), x.stop(0, 480480, 0, 0), x.stop(0, 480000, 0, 0),
                x.stop(0, 479480, 0, 0), x.stop(0, 1000, 0, 0), x.stop(0, HIGH, 0, 0), x.stop(0, 0, -1, 0),
                x.stop(0, 0, 51, 0), x.stop(0, 0, 6100, 0), x.stop(0, 0, 99, 0), x.stop(0, 0, HIGH, 0),
                x.stop(0, 0, LOW, 0), x.stop(20, 0, 0, 1), x.stop(10, 0, 51, 0), x.stop(30, 0, 51, 0),
                x.stop(40, 0, 51, 0));
        due("another FETCH", x.stop(10, ALL_DAY, 0, 0), 5);
        refused(NO, x.stop(20, 0, 6100, 5), x.stop(20, 0, -1, 5), x.stop(20, -1, 0, 5));
        x.van(9, ALL_DAY, 0);
        due("that stands in a round", x.put(5, 0, 0), 0);
        refused(NO, x.stop(20, ALL_DAY, 0, 5));
        x.take(5);
        due("and now doesn't", x.stop(20, ALL_DAY, 0, 5), 6);
        for (int number = 7; number < 12; number++) due("more", x.stop(10, ALL_DAY, 0, 0), number);
        refused(FULL, x.stop(0, ALL_DAY, 0, 0), x.stop(20, ALL_DAY, 0, 7), x.stop(10, 0, 0, LOW));
        refused(NO, x.stop(50, ALL_DAY, 0, 0), x.stop(20, ALL_DAY, 0, 5));
        refused(KIND, x.stop(20, ALL_DAY, 0, 0));
        refused(BEYOND, x.stop(20, ALL_DAY, 0, 12));
        due("twelve", x.count(0), 12);
    }

    private static void span() {
        promise = 6;
        VanRounds x = three();
        due("the one before", x.span(0, 15020), ALL_DAY);
        due("and that", x.span(0, 15015), 15020);
        due("goes", x.put(0, 0, 0), 25);
        due("waits", x.when(0, 0, 1), 15);
        due("later", x.span(0, 400), 15015);
        due("waits no more", x.when(0, 0, 1), 10);
        due("just yet", x.span(0, 10), 400);
        due("too early", x.span(0, 9), NO);
        due("back too late", x.span(0, 470475), NO);
        refused(BEYOND, x.span(3, 0), x.span(-1, 0), x.span(HIGH, 0), x.span(LOW, -1));
        refused(NO, x.span(0, -1), x.span(0, 480), x.span(0, 480000), x.span(0, 200100), x.span(0, HIGH), x.span(0, LOW));
        due("as it was", x.span(0, ALL_DAY), 10);
        due("of a stop in no round all goes", x.span(2, 0), ALL_DAY);
        due("widest", x.span(2, 479479), 0);
    }

    private static void price() {
        promise = 7;
        VanRounds x = line();
        x.stop(31, 4, 0, 0);
        x.stop(1, ALL_DAY, 0, 0);
        due("1 minute, 1 each, 6 late", x.put(0, 0, 0), 26);
        due("1 at first", x.price(0, 9), 1);
        due("6 late", x.cost(NONE), 74);
        due("the one before", x.price(0, 1), 9);
        refused(BEYOND, x.price(2, 1), x.price(-1, 0), x.price(HIGH, 1));
        x.stop(11, ALL_DAY, 0, 0);
        x.stop(21, ALL_DAY, 0, 2);
        x.stop(41, ALL_DAY, 0, 0);
        refused(KIND, x.price(1, 1), x.price(1, 0), x.price(2, 5), x.price(3, 5), x.price(4, 5));
        refused(NO, x.price(0, 0), x.price(0, 10), x.price(0, -1), x.price(0, HIGH), x.price(0, LOW));
        due("as it was", x.price(0, 2), 1);
    }

    private static void van() {
        promise = 8;
        VanRounds x = new VanRounds();
        refused(NO, x.van(0, ALL_DAY, 0), x.van(201, ALL_DAY, 0), x.van(5, 480, 0), x.van(5, 200100, 0), x.van(5, -1, 0),
                x.van(5, ALL_DAY, -1), x.van(5, ALL_DAY, 501), x.van(-1, 0, 0), x.van(HIGH, 0, 0), x.van(5, HIGH, 0),
                x.van(5, 0, HIGH), x.van(5, 480480, 0));
        due("least", x.van(1, 0, 0), 0);
        due("most", x.van(200, 479479, 500), 1);
        due("third", x.van(7, 10020, 7), 2);
        refused(FULL, x.van(7, 10020, 7), x.van(200, ALL_DAY, 0));
        refused(NO, x.van(0, 10020, 7), x.van(1, 480, 7), x.van(1, 0, 501));
        due("three", x.count(1), 3);
        x.stop(0, ALL_DAY, 2, 0);
        due("too much for load 1", x.why(0, 0, 0), 2);
        due("its fee", x.put(0, 1, 0), 500);
        due("its shift", x.shift(1, ALL_DAY), 479479);
        due("its shift", x.shift(2, 0), 10020);
    }

    private static void shift() {
        promise = 9;
        VanRounds x = three();
        due("the one before", x.shift(0, 100200), ALL_DAY);
        due("goes at 100", x.put(0, 0, 0), 20);
        due("comes at 110", x.when(0, 0, 0), 110);
        due("just back", x.shift(0, 100125), 100200);
        due("back too late", x.shift(0, 100124), NO);
        due("no way back at all", x.shift(0, 470479), NO);
        refused(BEYOND, x.shift(1, 0), x.shift(-1, 0), x.shift(HIGH, -1));
        refused(NO, x.shift(0, -1), x.shift(0, 480), x.shift(0, 5003), x.shift(0, HIGH), x.shift(0, 480480));
        due("as it was", x.shift(0, 200300), 100125);
        due("an hour later", x.when(0, 0, 0), 210);
        x.clear();
        due("an empty round fits", x.shift(0, 479479), 200300);
    }

    private static void look() {
        promise = 10;
        VanRounds x = mixed();
        int[][] want = {{1, 1, 20, 2, 1, NONE, NONE}, {2, 3, 20, 3, 0, NONE, NONE}, {0, 2, 10, 4, NONE, NONE, NONE},
            {4, 2, 7, 1, NONE, NONE, NONE}, {1, 1, 5, 0, NONE, NONE, NONE}};
        for (int stop = 0; stop < 5; stop++) {
            for (int what = 0; what <= 6; what++) due("look " + stop + " " + what, x.look(stop, what), want[stop][what]);
        }
        x.van(50, ALL_DAY, 0);
        x.put(2, 1, 0);
        x.pair(0, 1, 1, 2);
        due("van", x.look(1, 5), 1);
        due("place", x.look(1, 6), 2);
        due("van of the first", x.look(2, 5), 1);
        due("place of the first", x.look(2, 6), 0);
        due("in none", x.look(3, 5), NONE);
        refused(BEYOND, x.look(5, 0), x.look(-1, 0), x.look(5, 9), x.look(HIGH, 0), x.look(LOW, 0));
        refused(NO, x.look(0, 7), x.look(0, -1), x.look(0, HIGH), x.look(0, LOW));
    }

    private static void round() {
        promise = 11;
        VanRounds x = three();
        due("none", x.round(0, NONE), 0);
        refused(BEYOND, x.round(0, 0));
        x.put(2, 0, 0);
        x.put(0, 0, 0);
        rounds("two", x, 0, 0, 2);
        refused(BEYOND, x.round(0, 2), x.round(0, -2), x.round(1, NONE), x.round(1, 0), x.round(-1, 0), x.round(-1, -1),
                x.round(HIGH, 0), x.round(0, HIGH), x.round(0, LOW));
    }

    private static void when() {
        promise = 12;
        VanRounds x = line();
        x.stop(1, 15020, 510, 0);
        x.stop(12, ALL_DAY, 607, 0);
        refused(BEYOND, x.when(0, 0, 0), x.when(0, 0, 9), x.when(1, 0, 0), x.when(-1, 0, 0));
        x.put(0, 0, 0);
        x.put(1, 0, 1);
        int[][] want = {{10, 15, 20, 0}, {30, 30, 36, 7}};
        for (int i = 0; i < 2; i++) {
            for (int what = 0; what < 4; what++) due("when " + i + " " + what, x.when(0, i, what), want[i][what]);
        }
        due("back", x.when(0, 2, 0), 56);
        refused(NO, x.when(0, 2, 1), x.when(0, 2, 2), x.when(0, 2, 3), x.when(0, 0, 4), x.when(0, 0, -1), x.when(0, 2, -1),
                x.when(0, 1, HIGH), x.when(0, 1, LOW));
        refused(BEYOND, x.when(0, 3, 0), x.when(0, -1, 0), x.when(1, 0, 0), x.when(0, 3, 7), x.when(0, HIGH, 0),
                x.when(0, LOW, 0));
    }

    private static void cost() {
        promise = 13;
        VanRounds x = three();
        x.van(100, 50300, 30);
        x.stop(31, 55, 100, 0);
        due("empty", x.cost(1), 0);
        due("no fee for an empty round", x.cost(NONE), 0);
        x.put(0, 0, 0);
        due("20 on the road", x.cost(0), 20);
        x.put(3, 1, 0);
        due("20 on the road, 5 late, fee 30", x.cost(1), 55);
        due("both", x.cost(NONE), 75);
        x.span(0, 100200);
        due("waiting counts, serving doesn't", x.cost(0), 110);
        refused(BEYOND, x.cost(2), x.cost(-2), x.cost(HIGH), x.cost(LOW));
    }

    private static void why() {
        promise = 14;
        VanRounds x = mixed();
        due("a FETCH without its DROP", x.why(0, 0, 0), 1);
        due("a DROP without its FETCH", x.why(1, 0, 0), 1);
        due("it can", x.why(2, 0, 0), 0);
        x.put(2, 0, 0);
        due("1 ahead of 2 and 3", x.why(0, 0, 1), 1);
        refused(NO, x.why(2, 0, 0), x.why(2, 0, 1));
        refused(BEYOND, x.why(5, 0, 0), x.why(-1, 0, 0), x.why(3, 1, 0), x.why(3, -1, 0), x.why(3, 0, 2), x.why(3, 0, -1),
                x.why(2, 0, 2), x.why(HIGH, HIGH, HIGH), x.why(3, 0, LOW));
        due("it changes nothing", x.round(0, NONE), 1);
        due("nor can that be taken back", x.count(4), 1);

        x = line();
        x.stop(1, 9, 50, 0);
        x.stop(1, 9, 49, 0);
        x.stop(0, ALL_DAY, 50, 0);
        x.stop(0, ALL_DAY, 1, 0);
        due("too late", x.why(0, 0, 0), 3);
        x.put(2, 0, 0);
        x.put(3, 0, 0);
        due("just enough load, but too late", x.why(1, 0, 0), 3);
        due("2 ahead of 3", x.why(0, 0, 0), 2);
        x.stop(5, ALL_DAY, 0, 0);
        due("no way", x.why(4, 0, 0), 3);
        x.stop(35, 0, 0, 0);
        due("no way to a SOFT one", x.why(5, 0, 0), 3);
        x.shift(0, 25);
        x.stop(1, 20020, 0, 0);
        due("back too late", x.why(6, 0, 2), 4);
        x.shift(0, 30);
        due("back just in time", x.why(6, 0, 2), 0);
        due("but not yet earlier", x.why(6, 0, 1), 0);
    }

    private static void where() {
        promise = 15;
        VanRounds x = mixed();
        due("none yet", x.where(), NONE);
        x.put(2, 0, 0);
        x.put(3, 0, 1);
        x.why(0, 0, 2);
        due("of a FETCH its own", x.where(), 2);
        x.why(1, 0, 1);
        due("of a DROP", x.where(), 1);
        refused(BEYOND, x.why(1, 0, 9));
        refused(NO, x.why(2, 0, 0));
        due("a refused one changes nothing", x.where(), 1);
        due("it can", x.why(4, 0, 0), 0);
        due("it could", x.where(), NONE);

        x = line();
        x.shift(0, 60);
        x.stop(11, ALL_DAY, 50, 0);
        x.stop(12, 20020, 50, 0);
        x.stop(11, ALL_DAY, 1, 0);
        x.stop(1, ALL_DAY, 50, 0);
        x.stop(2, ALL_DAY, 100, 0);
        x.put(0, 0, 0);
        x.put(1, 0, 1);
        due("too much", x.why(2, 0, 0), 2);
        due("behind the last", x.where(), 2);
        due("too much", x.why(3, 0, 2), 2);
        due("behind the one ahead of it", x.where(), 1);
        x.put(4, 0, 2);
        due("too much", x.why(2, 0, 1), 2);
        due("behind the first of several", x.where(), 2);
        due("brought ahead of what is fetched", x.why(3, 0, 0), 0);
        x.clear();
        x.put(1, 0, 0);
        due("makes another too late", x.why(4, 0, 0), 3);
        due("that one", x.where(), 1);
        x.span(1, 30060);
        x.shift(0, 50);
        due("back too late", x.why(4, 0, 1), 4);
        due("how many with it", x.where(), 2);
        due("undo doesn't touch it", x.undo(), MISSING);
        x.clear();
        due("nor clear", x.where(), 2);
        x.stop(0, ALL_DAY, 50, 0);
        x.stop(0, ALL_DAY, 50, 0);
        x.stop(0, ALL_DAY, 1, 0);
        x.put(5, 0, 0);
        x.put(6, 0, 0);
        due("too much from the beginning", x.why(7, 0, 2), 2);
        due("ahead of the first", x.where(), NONE);
    }

    private static void put() {
        promise = 16;
        VanRounds x = three();
        due("to 2 and back", x.put(1, 0, 0), 40);
        due("to 1 on the way", x.put(0, 0, 0), 40);
        due("to 3 at last", x.put(2, 0, 2), 60);
        rounds("put", x, 0, 0, 1, 2);
        due("a change each", x.count(4), 3);
        refused(NO, x.put(0, 0, 0), x.put(2, 0, 3));
        refused(BEYOND, x.put(3, 0, 0), x.put(-1, 0, 0), x.put(0, 1, 0), x.put(0, -1, 0), x.put(0, 0, 4), x.put(0, 0, -1),
                x.put(HIGH, 0, 0), x.put(0, HIGH, 0), x.put(0, 0, LOW));
        x = mixed();
        refused(NO, x.put(0, 0, 0), x.put(1, 0, 0));
        due("a FETCH without a DROP", x.put(4, 0, 0), 20);
        x.stop(2, 15, 0, 0);
        refused(NO, x.put(5, 0, 0), x.put(5, 0, 1));
        due("refused, so nothing is changed", x.round(0, NONE), 1);
        due("a refusal can't be taken back", x.count(4), 0);
    }

    private static void pair() {
        promise = 17;
        VanRounds x = mixed();
        x.put(2, 0, 0);
        refused(BEYOND, x.pair(5, 0, 0, 0), x.pair(-1, 0, 0, 0), x.pair(0, 1, 0, 1), x.pair(0, -1, 0, 1),
                x.pair(2, 1, 0, 0), x.pair(HIGH, 0, 0, 0));
        refused(KIND, x.pair(1, 0, 0, 1), x.pair(2, 0, 0, 1), x.pair(3, 0, 9, 9));
        refused(MISSING, x.pair(4, 0, 0, 1), x.pair(4, 0, 9, 9));
        refused(BEYOND, x.pair(0, 0, 2, 2), x.pair(0, 0, -1, 0), x.pair(0, 0, 0, 3), x.pair(0, 0, 0, -1),
                x.pair(0, 0, HIGH, 0), x.pair(0, 0, 0, HIGH));
        refused(NO, x.pair(0, 0, 0, 0), x.pair(0, 0, 1, 1), x.pair(0, 0, 1, 0));
        due("nothing is changed", x.count(4), 1);
        due("around it", x.pair(0, 0, 0, 2), 60);
        rounds("pair", x, 0, 0, 2, 1);
        due("one change", x.count(4), 2);
        refused(NO, x.pair(0, 0, 0, 1), x.pair(0, 0, 3, 4));
        refused(BEYOND, x.pair(0, 0, 4, 4), x.pair(0, 0, 3, 5));
        due("taken back at once", x.undo(), 40);
        due("behind it", x.pair(0, 0, 1, 2), 80);
        rounds("pair", x, 0, 2, 0, 1);
        x.clear();
        x.shift(0, 64);
        due("back too late", x.pair(0, 0, 0, 1), NO);
        x.shift(0, 65);
        due("just back", x.pair(0, 0, 0, 1), 60);
    }

    private static void take() {
        promise = 18;
        VanRounds x = mixed();
        x.put(2, 0, 0);
        x.pair(0, 0, 0, 2);
        x.put(3, 0, 1);
        due("one", x.take(3), 60);
        due("a FETCH with its DROP", x.take(0), 40);
        rounds("took a FETCH", x, 0, 2);
        due("one change", x.undo(), 60);
        rounds("back again", x, 0, 0, 2, 1);
        due("a DROP with its FETCH", x.take(1), 40);
        rounds("took a DROP", x, 0, 2);
        refused(NO, x.take(0), x.take(1), x.take(3));
        refused(BEYOND, x.take(5), x.take(-1), x.take(HIGH), x.take(LOW));
        due("a FETCH alone", x.put(4, 0, 0), 40);
        due("goes", x.take(4), 40);
        due("the last", x.take(2), 0);
        due("none", x.round(0, NONE), 0);
    }

    private static void move() {
        promise = 19;
        VanRounds x = three();
        x.van(100, ALL_DAY, 7);
        x.put(0, 0, 0);
        x.put(1, 0, 1);
        x.put(2, 0, 2);
        due("to the end", x.move(0, 0, 2), 60);
        rounds("moved", x, 0, 1, 2, 0);
        refused(BEYOND, x.move(0, 0, 3), x.move(0, 0, -1), x.move(0, 1, 1), x.move(3, 0, 0), x.move(-1, 0, 0),
                x.move(0, 2, 0), x.move(0, -1, 0), x.move(HIGH, 0, 0), x.move(0, 0, HIGH));
        due("to the beginning", x.move(0, 0, 0), 60);
        rounds("moved", x, 0, 0, 1, 2);
        due("to where it is", x.move(1, 0, 1), 60);
        due("that is no change", x.count(4), 5);
        due("to the other van", x.move(2, 1, 0), 107);
        rounds("moved", x, 0, 0, 1);
        rounds("moved", x, 1, 2);
        due("there to the end", x.move(0, 1, 1), 107);
        rounds("moved", x, 1, 2, 0);
        x.take(1);
        refused(NO, x.move(1, 0, 0), x.move(1, 0, 9));
        refused(BEYOND, x.move(1, 2, 9));

        x = mixed();
        x.van(100, ALL_DAY, 0);
        x.pair(0, 0, 0, 1);
        x.put(2, 0, 2);
        refused(NO, x.move(0, 0, 1), x.move(0, 0, 2), x.move(1, 0, 0), x.move(0, 1, 0), x.move(1, 1, 0));
        due("a DROP in its round", x.move(1, 0, 2), 60);
        due("a FETCH in its round", x.move(0, 0, 1), 80);
        rounds("moved", x, 0, 2, 0, 1);
        x.shift(1, 10);
        due("the other round wouldn't fit", x.move(2, 1, 0), NO);
    }

    private static void cross() {
        promise = 20;
        VanRounds x = three();
        x.van(100, ALL_DAY, 5);
        x.stop(1, ALL_DAY, 0, 0);
        x.put(0, 0, 0);
        x.put(1, 0, 1);
        x.put(2, 1, 0);
        x.put(3, 1, 1);
        due("ends", x.cross(0, 1, 1, 1), 85);
        rounds("crossed", x, 0, 0, 3);
        rounds("crossed", x, 1, 2, 1);
        due("from the other side", x.cross(1, 1, 0, 1), 105);
        rounds("crossed back", x, 0, 0, 1);
        rounds("crossed back", x, 1, 2, 3);
        due("wholly", x.cross(0, 0, 1, 0), 105);
        rounds("wholly", x, 0, 2, 3);
        due("two empty ends", x.cross(0, 2, 1, 2), 105);
        due("no change", x.count(4), 7);
        due("all to one", x.cross(0, 0, 1, 2), 65);
        rounds("all to one", x, 0);
        rounds("all to one", x, 1, 0, 1, 2, 3);
        refused(NO, x.cross(0, 0, 0, 0), x.cross(1, 1, 1, 3));
        refused(BEYOND, x.cross(0, 1, 1, 0), x.cross(1, 5, 0, 0), x.cross(1, -1, 0, 0), x.cross(1, 0, 0, 1),
                x.cross(0, 0, 1, -1), x.cross(2, 0, 1, 0), x.cross(1, 0, 2, 0), x.cross(-1, 0, 1, 0), x.cross(1, 0, -1, 0),
                x.cross(0, 1, 0, 0), x.cross(2, 0, 2, 0), x.cross(HIGH, HIGH, LOW, LOW), x.cross(1, HIGH, 0, 0));
        x = mixed();
        x.van(100, ALL_DAY, 0);
        x.pair(0, 0, 0, 1);
        x.put(2, 1, 0);
        refused(NO, x.cross(0, 1, 1, 0), x.cross(0, 1, 1, 1), x.cross(1, 0, 0, 1));
        rounds("refused", x, 0, 0, 1);
        due("whole ones", x.cross(0, 0, 1, 1), 80);
        rounds("whole ones", x, 1, 2, 0, 1);
    }

    private static void turn() {
        promise = 21;
        VanRounds x = three();
        x.stop(0, ALL_DAY, 0, 0);
        for (int stop = 0; stop < 4; stop++) x.put(stop, 0, stop);
        due("three", x.turn(0, 0, 2), 60);
        rounds("turned", x, 0, 2, 1, 0, 3);
        due("two", x.turn(0, 1, 2), 80);
        rounds("turned", x, 0, 2, 0, 1, 3);
        due("all", x.turn(0, 0, 3), 80);
        rounds("turned", x, 0, 3, 1, 0, 2);
        refused(NO, x.turn(0, 1, 1), x.turn(0, 2, 1), x.turn(0, 3, 0));
        refused(BEYOND, x.turn(1, 0, 1), x.turn(-1, 0, 1), x.turn(0, 0, 4), x.turn(0, -1, 2), x.turn(0, 4, 0), x.turn(0, 4, 4),
                x.turn(0, 2, -1), x.turn(HIGH, 0, 1), x.turn(0, 0, HIGH), x.turn(0, LOW, HIGH));
        due("three more changes", x.count(4), 7);
        x = mixed();
        x.pair(0, 0, 0, 1);
        refused(NO, x.turn(0, 0, 1));
        rounds("refused", x, 0, 0, 1);
    }

    private static void build() {
        promise = 22;
        VanRounds x = mixed();
        due("all", x.build(), 5);
        // 4 at 1: +20; then 2 at 2: +20; 3 at 2: +0 though serve 1, before 2 as place 0 fits; the pair: +20
        due("costs", x.cost(NONE), 60);
        due("one change", x.count(4), 1);
        due("none is left", x.build(), 0);
        due("which is no change", x.count(4), 1);
        due("taken back", x.undo(), 0);

        x = three();
        x.van(100, ALL_DAY, 0);
        due("built", x.build(), 3);
        // each goes ahead of what stands there at no more cost: 0; then 1 ahead of it; then 2 ahead of that
        rounds("of equal places the least", x, 0, 2, 1, 0);
        due("none in the other", x.round(1, NONE), 0);

        x = three();
        x.van(100, ALL_DAY, 0);
        x.shift(0, 25);
        due("one each, two, and one that fits nowhere", x.build(), 3);
        rounds("the least stop, the least van", x, 0, 0);
        rounds("the others", x, 1, 2, 1);

        x = line();
        x.stop(3, 20, 0, 0);
        x.stop(12, ALL_DAY, 50, 0);
        x.stop(22, ALL_DAY, 0, 1);
        due("only what fits", x.build(), 2);
        rounds("the pair", x, 0, 1, 2);

        x = line();
        x.stop(1, 50100, 0, 0);
        x.stop(1, ALL_DAY, 3000, 0);
        x.put(0, 0, 0);
        due("put while the van waits anyway", x.build(), 1);
        due("grows by less than nothing", x.cost(NONE), 30);
        rounds("while it waits", x, 0, 1, 0);
        due("no vans", new VanRounds().build(), 0);
    }

    private static void better() {
        promise = 23;
        VanRounds x = three();
        x.van(100, ALL_DAY, 9);
        x.put(1, 0, 0);
        x.put(0, 0, 1);
        x.put(2, 0, 2);
        due("2, 1, 3 and back: a detour", x.cost(NONE), 80);
        due("none asked for", x.better(0), 0);
        due("no change", x.count(4), 3);
        due("the first move", x.better(1), 1);
        // stop 0 to place 0: 60
        rounds("better", x, 0, 0, 1, 2);
        due("60", x.cost(NONE), 60);
        due("no more", x.better(100), 0);
        due("one change", x.count(4), 4);
        due("taken back", x.undo(), 80);
        x.move(0, 1, 0);
        x.move(1, 1, 1);
        due("spread", x.cost(NONE), 109);
        due("first stop 1 comes over, then stop 0", x.better(7), 2);
        rounds("together", x, 0, 0, 1, 2);
        due("all", x.cost(NONE), 60);
        refused(BELOW, x.better(-1), x.better(LOW));
        refused(NO, x.better(101), x.better(HIGH));
        due("at most 100", x.better(100), 0);
        due("nothing to better", new VanRounds().better(3), 0);
    }

    private static void least() {
        promise = 24;
        VanRounds x = line();
        x.stop(3, ALL_DAY, 0, 0);
        x.stop(1, ALL_DAY, 0, 0);
        x.stop(2, ALL_DAY, 0, 0);
        due("three", x.least(), 3);
        rounds("of 0 2 1 and 1 2 0 the least row of numbers", x, 0, 0, 2, 1);
        due("of the least cost", x.cost(NONE), 60);
        due("a change", x.count(4), 1);
        due("again", x.least(), 3);
        due("no change", x.count(4), 1);

        // one van back by 45, one by 25: 2 places at most; MUST ahead of more stops
        x = new VanRounds();
        for (int place = 0; place < 3; place++) x.street(place, place + 1, 10);
        x.van(20, 65, 100);
        x.stop(1, ALL_DAY, 10, 0);
        x.stop(2, ALL_DAY, 10, 0);
        x.stop(43, ALL_DAY, 15, 0);
        due("the MUST alone", x.least(), 1);
        rounds("the MUST alone", x, 0, 2);
        x.van(20, 25, 0);
        due("both vans", x.least(), 2);
        rounds("the MUST", x, 0, 2);
        rounds("and the other that fits", x, 1, 0);
        due("cost", x.cost(NONE), 180);
        x.shift(1, 45);
        due("more stops", x.least(), 3);
        rounds("the two", x, 1, 0, 1);
        due("undone", x.undo(), 180);
        x.stop(1, ALL_DAY, 0, 0);
        due("a fourth", x.least(), 4);
        due("cheapest, then the least row", x.cost(NONE), 200);
        rounds("the 99 is greater than a stop", x, 0, 2, 3);
        x.stop(0, ALL_DAY, 0, 0);
        due("five", x.least(), 5);
        x.stop(0, ALL_DAY, 0, 0);
        refused(FULL, x.least());
        x = new VanRounds();
        due("nothing", x.least(), 0);
        x.stop(0, ALL_DAY, 0, 0);
        due("no van", x.least(), 0);
        x.van(9, ALL_DAY, 0);
        x.van(9, ALL_DAY, 0);
        due("two vans", x.least(), 1);
        x.van(9, ALL_DAY, 0);
        refused(FULL, x.least());
        due("refused, so as it was", x.round(0, NONE), 1);
    }

    private static void undo() {
        promise = 25;
        VanRounds x = three();
        refused(MISSING, x.undo());
        x.put(0, 0, 0);
        x.put(1, 0, 1);
        due("one back", x.undo(), 20);
        due("another", x.undo(), 0);
        refused(MISSING, x.undo());
        for (int k = 0; k < 13; k++) {
            x.put(0, 0, 0);
            x.take(0);
        }
        due("20 at most", x.count(4), 20);
        for (int k = 0; k < 20; k++) due("back " + k, x.undo(), k % 2 == 0 ? 20 : 0);
        refused(MISSING, x.undo());
        x.put(0, 0, 0);
        refused(NO, x.put(0, 0, 0), x.street(0, 1, 0), x.span(0, -1));
        x.way(0, 1, 0);
        due("refused ones leave it", x.undo(), 0);

        VanRounds[] told = new VanRounds[7];
        for (int k = 0; k < 7; k++) {
            told[k] = three();
            told[k].stop(31, ALL_DAY, 0, 0);
            told[k].put(0, 0, 0);
        }
        told[0].street(5, 6, 7);
        told[1].slow(0, 1, 7, 10);
        told[2].stop(0, ALL_DAY, 0, 0);
        told[3].span(0, ALL_DAY);
        told[4].price(3, 1);
        told[5].van(9, ALL_DAY, 0);
        told[6].shift(0, ALL_DAY);
        for (VanRounds y : told) {
            due("told, so none is left", y.count(4), 0);
            due("none", y.undo(), MISSING);
            due("but the plan is", y.round(0, NONE), 1);
        }
        x = three();
        x.put(0, 0, 0);
        x.clear();
        due("of a clear", x.undo(), 20);
        x.build();
        x.better(5);
        x.turn(0, 0, 1);
        due("of a turn", x.undo(), 60);
        due("of a build", x.undo(), 20);
    }

    private static void clear() {
        promise = 26;
        VanRounds x = three();
        x.van(100, ALL_DAY, 0);
        due("none", x.clear(), 0);
        due("no change", x.count(4), 0);
        x.put(0, 0, 0);
        x.put(1, 1, 0);
        x.put(2, 1, 0);
        due("three", x.clear(), 3);
        due("none any more", x.cost(NONE), 0);
        rounds("cleared", x, 0);
        rounds("cleared", x, 1);
        due("one change", x.count(4), 4);
        due("taken back", x.undo(), 20 + 60);
        rounds("back", x, 1, 2, 1);
    }

    private static void count() {
        promise = 27;
        VanRounds x = mixed();
        x.stop(31, 5, 0, 0);
        x.stop(32, 10, 0, 0);
        x.stop(3, 100200, 0, 0);
        int[] want = {8, 1, 8, 1, 0, 0, 0};
        for (int what = 0; what <= 6; what++) due("count " + what, x.count(what), want[what]);
        x.put(3, 0, 0);
        x.put(5, 0, 0);
        x.put(6, 0, 2);
        x.put(7, 0, 3);
        x.price(5, 9);
        // 5 at 10 (5 late), 3 at 20, 6 at 21 (11 late), 7 at 31, waits 69
        want = new int[] {8, 1, 4, 0, 0, 69, 16};
        for (int what = 0; what <= 6; what++) due("count " + what, x.count(what), want[what]);
        x.take(7);
        due("a change", x.count(4), 1);
        x.van(50, 60400, 0);
        x.put(7, 1, 0);
        x.move(6, 1, 1);
        due("waiting in the other round", x.count(5), 10);
        due("late in both", x.count(6), 5 + 100);
        refused(NO, x.count(7), x.count(-1), x.count(HIGH), x.count(LOW));
    }

    private static void lay() {
        promise = 28;
        VanRounds x = three();
        due("an empty one", x.lay(0), 0);
        refused(BEYOND, x.row(0));
        due("is there", x.tear(), 1);
        x.span(0, 15020);
        for (int stop = 0; stop < 3; stop++) x.put(stop, 0, stop);
        due("three", x.lay(0), 3);
        due("first", x.row(0), 15);
        due("second", x.row(1), 30);
        due("third", x.row(2), 45);
        x.clear();
        due("stays as it was laid", x.row(1), 30);
        refused(BEYOND, x.lay(1), x.lay(-1), x.lay(HIGH), x.lay(LOW));
        due("refused, so as it was", x.row(2), 45);
    }

    private static void tear() {
        promise = 29;
        VanRounds x = three();
        due("missing at first", x.tear(), 0);
        x.lay(0);
        due("there, though empty", x.tear(), 1);
        due("missing", x.tear(), 0);
        x.put(0, 0, 0);
        x.lay(0);
        due("there", x.tear(), 1);
        refused(MISSING, x.row(0));
        x.lay(0);
        due("laid anew", x.row(0), 10);
    }

    private static void row() {
        promise = 30;
        VanRounds x = three();
        refused(MISSING, x.row(0), x.row(-1), x.row(HIGH));
        x.put(0, 0, 0);
        x.put(2, 0, 1);
        x.lay(0);
        due("first", x.row(0), 10);
        due("last", x.row(1), 35);
        refused(BEYOND, x.row(2), x.row(-1), x.row(HIGH), x.row(LOW));
        x.take(2);
        x.lay(0);
        refused(BEYOND, x.row(1));
    }

    private static void copy() {
        promise = 31;
        VanRounds x = three();
        refused(MISSING, x.copy(0, 0, 0), x.copy(-1, 0, -1), x.copy(0, 0, 5));
        for (int k = 3; k < 6; k++) x.stop(0, ALL_DAY, 100, 0);
        for (int stop = 3; stop < 6; stop++) x.put(stop, 0, stop - 3);
        for (int stop = 0; stop < 2; stop++) x.put(stop, 0, stop + 3);
        due("five", x.lay(0), 5);
        // 0 1 2 13 28
        due("up", x.copy(0, 1, 3), 3);
        int[] want = {0, 0, 1, 2, 28};
        for (int i = 0; i < 5; i++) due("up " + i, x.row(i), want[i]);
        due("down", x.copy(2, 0, 3), 3);
        want = new int[] {1, 2, 28, 2, 28};
        for (int i = 0; i < 5; i++) due("down " + i, x.row(i), want[i]);
        due("none", x.copy(5, 5, 0), 0);
        due("all", x.copy(0, 0, 5), 5);
        refused(BELOW, x.copy(0, 0, -1), x.copy(-1, -1, -1), x.copy(9, 9, LOW));
        refused(COPY, x.copy(-1, 0, 1), x.copy(0, -1, 1), x.copy(3, 0, 3), x.copy(0, 3, 3), x.copy(0, 0, 6), x.copy(6, 0, 0),
                x.copy(0, 6, 0), x.copy(-1, 0, 0), x.copy(0, -1, 0), x.copy(HIGH, 0, HIGH), x.copy(0, HIGH, HIGH),
                x.copy(0, 0, HIGH), x.copy(LOW, 0, 1), x.copy(1, 0, HIGH));
        for (int i = 0; i < 5; i++) due("as it was " + i, x.row(i), want[i]);
    }

    private static void status() {
        promise = 32;
        VanRounds x = three();
        refused(NO, x.status(-1), x.status(-9), x.status(0), x.status(2), x.status(HIGH), x.status(LOW));
        due("NO", x.status(NO), 6);
        x.undo();
        x.row(0);
        x.slow(5, 6, 0, 1);
        x.put(9, 0, 0);
        x.better(-1);
        x.better(-2);
        x.price(0, 1);
        x.lay(0);
        for (int k = 0; k < 4; k++) x.copy(1, 0, 0);
        x.van(1, 0, 0);
        x.van(1, 0, 0);
        for (int k = 0; k < 5; k++) x.van(1, 0, 0);
        int[] want = {5, 6, 4, 1, 2, 1, 3};
        for (int by = -8; by <= -2; by++) due("status(" + by + ")", x.status(by), want[by + 8]);
        due("NONE is no refusal", x.way(0, 7, 0), NONE);
        due("nor is it counted", x.where(), NONE);
        x = new VanRounds();
        for (int k = 0; k < 511; k++) x.undo();
        due("511 refused", x.status(MISSING), 511);
    }

    /** What stands in the Terms alone. */
    private static void terms() {
        promise = 0;
        VanRounds x = line();
        x.stop(0, 479479, 6000, 0);
        due("begins at 479 but isn't back", x.why(0, 0, 0), 4);
        x.stop(31, 0, 0, 0);
        x.shift(0, 470479);
        due("a SOFT one may not begin at 480", x.why(1, 0, 0), 3);
        x.shift(0, 469479);
        due("but at 479, and not be back", x.why(1, 0, 0), 4);
        x.stop(0, ALL_DAY, 1000, 0);
        due("at the yard, served till 479", x.put(2, 0, 0), 0);
        x.stop(0, ALL_DAY, 100, 0);
        due("served till 480, at the yard: back too late", x.why(3, 0, 1), 4);
        due("there", x.where(), 2);

        // a DROP before its FETCH is told of at the DROP; 1 goes ahead of all else
        x = line();
        x.stop(11, ALL_DAY, 50, 0);
        x.stop(21, 3, 0, 0);
        x.stop(1, 3, 50, 0);
        due("1 ahead of 3", x.why(1, 0, 0), 1);
        x.van(49, ALL_DAY, 0);
        due("1 ahead of 2", x.why(0, 1, 0), 1);
        refused(NO, x.pair(0, 1, 0, 1));
        due("2 ahead of 3", x.why(2, 1, 0), 2);
        due("3", x.why(2, 0, 0), 3);

        // what is fetched, dropped, and brought
        x = line();
        x.stop(11, ALL_DAY, 50, 0);
        x.stop(22, ALL_DAY, 77, 0);
        x.stop(32, ALL_DAY, 30, 0);
        x.stop(43, ALL_DAY, 20, 0);
        x.pair(0, 0, 0, 1);
        due("soft amounts are aboard from the beginning", x.put(2, 0, 2), 40);
        due("must amounts, too, and that is all the load", x.put(3, 0, 3), 60);
        int[] want = {100, 50, 20, 0};
        for (int i = 0; i < 4; i++) due("aboard " + i, x.when(0, i, 3), want[i]);
    }
}
