import java.io.IOException;

/** The edges of promises 5 to 10: stops and vans as they are told, and looked at. */
public final class StopEdgesTest {
    private static final int NONE = Edges.NONE, MISSING = Edges.MISSING, BEYOND = Edges.BEYOND, KIND = Edges.KIND;
    private static final int NO = Edges.NO, FULL = Edges.FULL;
    private static final String LATER_NO = "Such a call is refused (NO), if some ROUND wouldn't FIT any more.";
    private static final String CHANGES_NOTHING = "A refused call changes nothing but status().";
    private static final String LEAVES_NONE = "and isn't refused leaves none";

    private static Edges edges;

    public static void main(String[] args) throws IOException {
        edges = new Edges("StopEdgesTest");
        stopNumbers();
        stopTold();
        stopSpan();
        stopService();
        dropAndFetch();
        stopRefused();
        stopChanges();
        span();
        spanRefused();
        price();
        van();
        vanTold();
        shift();
        shiftRefused();
        look();
        edges.end(5, 10);
    }

    /** Stop 0 at place 1, which a van is sent to at minute 0, 10 minutes off: begins at 10, is back at 20. */
    private static void one(Run x) {
        x.make("street 0 1 10", "van 9 479 0", "stop 1 479 1 0", "put 0 0 0");
    }

    /** One stop of each kind at the yard, by its kind's number but for FETCH 1 ahead of DROP 2. */
    private static void kinds(Run x) {
        x.make("stop 0 479 0 0", "stop 10 479 0 0", "stop 20 479 0 1", "stop 30 479 0 0", "stop 40 479 0 0");
    }

    private static void stopNumbers() {
        edges.edge(5, "STOPS 0 .. 11 as they come", x -> {
            for (int number = 0; number < 12; number++) x.due(number, "stop " + (number % 8) + " 479 0 0");
            x.due(FULL, "stop 0 479 0 0", "stop 0 479 0 0");
            x.due(12, "count 0");
            x.due(3, "look 11 1");
            x.due(BEYOND, "look 12 1");
        });
        edges.edge(5, "A STOP: its number.", x -> {
            x.due(NO, "stop 0 480 0 0");
            x.due(0, "stop 0 479 0 0");
            x.due(BEYOND, "stop 8 479 0 0", "stop 20 479 0 1");
            x.due(KIND, "stop 20 479 0 0");
            x.due(1, "stop 10 479 0 0");
            x.due(2, "stop 20 479 0 1");
            x.due(3, "count 0");
        });
        edges.edge(5, "FULL", x -> {
            for (int number = 0; number < 11; number++) x.due(number, "stop 10 479 0 0");
            x.due(11, "stop 20 479 0 10");
            x.due(FULL, "stop 0 479 0 0", "stop 20 479 0 9", "stop 10 0 0 LOW", "stop 30 0 0 0", "stop 47 0 6050 0");
            x.due(NONE, "look 9 4");
            x.due(0, "count 1", "van 9 479 0");
        });
    }

    private static void stopTold() {
        edges.edge(5, "KIND and PLACE told as 10 * KIND + PLACE", x -> {
            x.due(0, "stop 0 479 0 0");
            x.due(1, "stop 7 479 0 0");
            x.due(2, "stop 10 479 0 0");
            x.due(3, "stop 17 479 0 0");
            x.due(4, "stop 27 479 0 3");
            x.due(5, "stop 20 479 0 2");
            x.due(6, "stop 30 479 0 0");
            x.due(7, "stop 37 479 0 0");
            x.due(8, "stop 40 479 0 0");
            x.due(9, "stop 47 479 0 0");
            int[][] told = {{0, 0}, {0, 7}, {1, 0}, {1, 7}, {2, 7}, {2, 0}, {3, 0}, {3, 7}, {4, 0}, {4, 7}};
            for (int stop = 0; stop < 10; stop++) {
                x.due(told[stop][0], "look " + stop + " 0");
                x.due(told[stop][1], "look " + stop + " 1");
            }
        });
        edges.edge(5, "PLACES 0 .. 7", x -> {
            x.make("stop 10 479 0 0");
            for (int kind = 0; kind <= 6; kind++) {
                x.due(BEYOND, "stop " + (10 * kind + 8) + " 479 0 0", "stop " + (10 * kind + 9) + " 479 0 0");
            }
            x.due(1, "stop 27 479 0 0");
        });
        edges.edge(5, "PLACE (told below 0, too)", x -> {
            x.due(BEYOND, "stop -1 479 0 0", "stop -3 479 0 0", "stop -10 479 0 0", "stop -20 479 0 0", "stop LOW 479 0 0");
            x.due(BEYOND, "stop -1 480 -1 0", "stop -2147483640 479 0 0");
            x.due(0, "stop 0 479 0 0");
        });
        edges.edge(5, "KINDS: 0 BRING", x -> {
            x.due(NO, "stop 50 479 0 0", "stop 57 479 0 0", "stop 60 479 0 0", "stop 100 479 0 0", "stop 2560 479 0 0");
            x.due(NO, "stop 655360 479 0 0", "stop HIGH 479 0 0", "stop 2147483640 479 0 0");
            x.due(0, "stop 47 479 0 0");
        });
    }

    private static void stopSpan() {
        edges.edge(5, "its SPAN as 1000 * from + to (0 .. 479 each, from not behind to)", x -> {
            x.due(0, "stop 0 0 0 0");
            x.due(1, "stop 0 479 0 0");
            x.due(2, "stop 0 479479 0 0");
            x.due(3, "stop 0 100100 0 0");
            x.due(4, "stop 0 1001 0 0");
            x.due(NO, "stop 0 480 0 0", "stop 0 999 0 0", "stop 0 -1 0 0", "stop 0 479480 0 0", "stop 0 480479 0 0");
            x.due(NO, "stop 0 480480 0 0", "stop 0 480000 0 0", "stop 0 480999 0 0", "stop 0 LOW 0 0", "stop 0 HIGH 0 0");
            x.due(NO, "stop 0 -1000 0 0", "stop 0 -999 0 0", "stop 0 500 0 0", "stop 0 9999999 0 0");
            x.due(5, "count 0");
        });
        edges.edge(5, "from not behind to", x -> {
            x.due(0, "stop 0 100100 0 0");
            x.due(NO, "stop 0 100099 0 0", "stop 0 1000 0 0", "stop 0 479478 0 0", "stop 0 479000 0 0");
            x.due(1, "stop 0 100101 0 0");
        });
        edges.edge(5, "from not behind to", x -> {
            x.make("stop 10 479 0 0");
            x.due(NO, "stop 10 100099 0 0", "stop 20 100099 0 0", "stop 30 100099 0 0", "stop 40 100099 0 0");
            x.due(NO, "stop 20 480 0 0", "stop 20 -1 0 0");
            x.due(1, "stop 20 100100 0 0");
        });
    }

    private static void stopService() {
        edges.edge(5, "SERVE and AMOUNT as 100 * SERVE + AMOUNT", x -> {
            x.due(0, "stop 0 479 0 0");
            x.due(1, "stop 0 479 50 0");
            x.due(2, "stop 0 479 100 0");
            x.due(3, "stop 0 479 6000 0");
            x.due(4, "stop 0 479 6050 0");
            x.due(5, "stop 0 479 5950 0");
            int[][] told = {{0, 0}, {50, 0}, {0, 1}, {0, 60}, {50, 60}, {50, 59}};
            for (int stop = 0; stop < 6; stop++) {
                x.due(told[stop][0], "look " + stop + " 2");
                x.due(told[stop][1], "look " + stop + " 3");
            }
        });
        edges.edge(5, "SERVE (0 .. 60 minutes)", x -> {
            x.due(0, "stop 0 479 6000 0");
            x.due(NO, "stop 0 479 6100 0", "stop 0 479 6150 0", "stop 0 479 -100 0", "stop 0 479 -1 0", "stop 0 479 LOW 0");
            x.due(NO, "stop 0 479 HIGH 0", "stop 0 479 9900 0", "stop 0 479 -50 0");
            x.due(1, "stop 0 479 0 0");
        });
        edges.edge(5, "an AMOUNT (0 .. 50)", x -> {
            x.due(0, "stop 0 479 50 0");
            x.due(1, "stop 0 479 6050 0");
            x.due(NO, "stop 0 479 51 0", "stop 0 479 99 0", "stop 0 479 151 0", "stop 0 479 6051 0", "stop 0 479 6099 0");
            x.due(NO, "stop 10 479 51 0", "stop 30 479 51 0", "stop 40 479 51 0", "stop 10 479 99 0", "stop 40 479 6051 0");
            x.due(2, "stop 10 479 50 0");
            x.due(3, "stop 30 479 50 0");
            x.due(4, "stop 40 479 50 0");
        });
        edges.edge(5, "AMOUNT of a DROP neither", x -> {
            x.make("stop 10 479 7 0", "stop 10 479 50 0", "stop 10 479 0 0", "stop 10 479 1 0");
            x.due(4, "stop 20 479 51 0");
            x.due(5, "stop 20 479 6099 1");
            x.due(NO, "stop 20 479 6100 2", "stop 20 479 6199 2", "stop 20 479 -1 2", "stop 20 479 HIGH 2", "stop 20 479 LOW 2");
            x.due(6, "stop 20 479 50 2");
            x.due(7, "look 4 2", "stop 20 479 6000 3");
            x.due(50, "look 5 2");
            x.due(0, "look 6 2", "look 4 3");
            x.due(1, "look 7 2");
            x.due(60, "look 5 3");
        });
    }

    private static void dropAndFetch() {
        edges.edge(5, "of a DROP its FETCH (of others it doesn't matter", x -> {
            x.due(0, "stop 0 479 0 -1");
            x.due(1, "stop 10 479 0 LOW");
            x.due(2, "stop 30 479 0 HIGH");
            x.due(3, "stop 40 479 0 12");
            x.due(4, "stop 0 479 0 1");
            x.due(5, "stop 10 479 0 1");
            x.due(6, "stop 20 479 0 1");
            x.due(NONE, "look 4 4", "look 5 4");
            x.due(6, "look 1 4");
            x.due(1, "look 6 4");
        });
        edges.edge(5, "FETCH: no STOP", x -> {
            x.due(BEYOND, "stop 20 479 0 0", "stop 20 479 0 -1");
            x.due(0, "stop 10 479 0 0");
            x.due(BEYOND, "stop 20 479 0 1", "stop 20 479 0 -1", "stop 20 479 0 12", "stop 20 479 0 LOW", "stop 20 479 0 HIGH");
            x.due(1, "stop 20 479 0 0");
        });
        edges.edge(5, "KIND: that is no FETCH", x -> {
            kinds(x);
            x.due(KIND, "stop 20 479 0 0", "stop 20 479 0 2", "stop 20 479 0 3", "stop 20 479 0 4");
            x.due(5, "count 0");
        });
        edges.edge(5, "(each FETCH has at most one)", x -> {
            x.make("stop 10 479 0 0", "stop 10 479 0 0");
            x.due(2, "stop 20 479 0 0");
            x.due(NO, "stop 20 479 0 0", "stop 25 100200 300 0");
            x.due(3, "stop 20 479 0 1");
            x.due(NO, "stop 20 479 0 0", "stop 20 479 0 1");
            x.due(2, "look 0 4");
            x.due(3, "look 1 4");
        });
        edges.edge(5, "the FETCH has a DROP, or stands in a ROUND", x -> {
            x.make("van 9 479 0", "stop 10 479 0 0", "put 0 0 0");
            x.due(NO, "stop 20 479 0 0");
            x.due(NONE, "look 0 4");
            x.make("take 0");
            x.due(1, "stop 20 479 0 0");
            x.make("pair 0 0 0 1");
            x.due(NO, "stop 20 479 0 0");
        });
    }

    private static void stopRefused() {
        edges.edge(5, "BEYOND: PLACE (told below 0, too), FETCH: no STOP; KIND: that is no FETCH", x -> {
            kinds(x);
            x.due(BEYOND, "stop 28 479 0 0", "stop 28 480 6100 0", "stop 29 479 0 1", "stop 20 480 0 5", "stop 20 479 6100 -1");
            x.due(BEYOND, "stop 58 479 0 0", "stop 9 480 0 0", "stop 9 479 51 0", "stop -7 HIGH HIGH HIGH");
            x.due(KIND, "stop 20 480 0 0", "stop 20 479 6100 2", "stop 20 -1 -1 3", "stop 20 100099 6100 4");
            x.due(NO, "stop 50 479 0 -1", "stop 50 480 6100 0", "stop 20 480 0 1", "stop 20 479 0 1");
        });
        edges.edge(5, "NO: KIND, SPAN, SERVE, AMOUNT, the FETCH has a DROP, or stands in a ROUND; FULL", x -> {
            kinds(x);
            for (int stop = 5; stop < 12; stop++) x.make("stop 10 479 0 0");
            x.make("van 9 479 0", "put 6 0 0");
            x.due(BEYOND, "stop 8 479 0 0", "stop -1 479 0 0", "stop 20 479 0 12", "stop 20 479 0 -1");
            x.due(KIND, "stop 20 479 0 0", "stop 20 479 0 4", "stop 20 480 6100 2");
            x.due(NO, "stop 50 479 0 0", "stop 0 480 0 0", "stop 0 479 6100 0", "stop 0 479 51 0", "stop 20 479 0 1");
            x.due(NO, "stop 20 479 0 6", "stop 20 480 0 5", "stop 20 479 6100 5");
            x.due(FULL, "stop 0 479 0 0", "stop 20 479 0 5", "stop 10 479 0 0");
        });
        edges.edge(5, CHANGES_NOTHING, x -> {
            x.make("van 9 479 0", "stop 10 479 5 0", "put 0 0 0", "take 0");
            x.due(NO, "stop 50 479 0 0", "stop 0 480 0 0", "stop 20 480 0 0", "stop 20 479 6100 0", "stop 0 479 51 0");
            x.due(BEYOND, "stop 8 479 0 0", "stop 20 479 0 1");
            x.due(2, "count 4");
            x.due(1, "count 0");
            x.due(NONE, "look 0 4");
            x.due(0, "undo", "undo");
        });
    }

    private static void stopChanges() {
        edges.edge(5, LEAVES_NONE, x -> {
            one(x);
            x.due(1, "count 4", "stop 0 479 0 0");
            x.due(0, "count 4");
            x.due(MISSING, "undo");
            x.round(0, 0);
        });
        edges.edge(5, "belongs to a FETCH that is told as it comes", x -> {
            x.make("stop 10 479 7 0", "van 9 479 0");
            x.due(0, "put 0 0 0", "take 0");
            x.due(2, "count 4");
            x.due(1, "stop 20 479 0 0");
            x.due(0, "count 4");
            x.due(1, "look 0 4", "why 0 0 0");
            x.due(NO, "put 0 0 0");
        });
    }

    private static void span() {
        edges.edge(6, "SPAN of a STOP (told likewise): the one before.", x -> {
            x.make("stop 0 7 0 0");
            x.due(7, "span 0 0");
            x.due(0, "span 0 479479");
            x.due(479479, "span 0 100100");
            x.due(100100, "span 0 479");
            x.due(479, "span 0 479");
            x.due(NO, "span 0 480", "span 0 -1", "span 0 479480", "span 0 480479", "span 0 100099", "span 0 1000", "span 0 999");
            x.due(NO, "span 0 480480", "span 0 HIGH", "span 0 LOW", "span 0 -1000", "span 0 479478");
            x.due(479, "span 0 5");
        });
        edges.edge(6, "BEGINS behind its SPAN's to (of a SOFT one not)", x -> {
            x.make("street 0 1 10", "van 9 479 0", "stop 1 479 0 0", "stop 31 479 0 0", "put 0 0 0", "put 1 0 1");
            x.due(479, "span 0 10", "span 1 9");
            x.due(NO, "span 0 9");
            x.due(9, "span 1 0");
            x.due(30, "cost -1");
            x.due(10, "count 6");
        });
        edges.edge(6, "or at the SPAN's from, if that is later", x -> {
            one(x);
            x.due(479, "span 0 9479");
            x.due(10, "when 0 0 1");
            x.due(9479, "span 0 10479");
            x.due(10, "when 0 0 1");
            x.due(10479, "span 0 11479");
            x.due(11, "when 0 0 1");
            x.due(1, "count 5");
        });
    }

    private static void spanRefused() {
        edges.edge(6, "BEYOND, NO.", x -> {
            x.due(BEYOND, "span 0 0", "span -1 0");
            one(x);
            x.due(BEYOND, "span 1 0", "span -1 0", "span LOW 0", "span HIGH 0", "span 1 480", "span -1 -1", "span 12 HIGH");
            x.due(NO, "span 0 480");
        });
        edges.edge(6, LATER_NO, x -> {
            one(x);
            x.due(NO, "span 0 9", "span 0 0", "span 0 470479");
            x.due(479, "span 0 469479");
            x.due(479, "when 0 1 0");
            x.due(NO, "span 0 470470", "span 0 479479");
            x.make("shift 0 479", "span 0 10");
            x.due(NO, "span 0 9");
            x.due(10, "span 0 10010");
        });
        edges.edge(6, LATER_NO, x -> {
            one(x);
            x.make("stop 1 10 0 0", "put 1 0 1");
            x.due(NO, "span 0 11479");
            x.due(479, "span 0 10479");
            x.make("take 1");
            x.due(10479, "span 0 11479");
            x.due(10, "span 1 0");
            x.due(3, "why 1 0 0");
        });
        edges.edge(6, CHANGES_NOTHING, x -> {
            one(x);
            x.make("take 0", "put 0 0 0");
            x.due(NO, "span 0 9", "span 0 480");
            x.due(BEYOND, "span 1 9");
            x.due(3, "count 4");
            x.due(479, "span 0 479");
        });
        edges.edge(6, LEAVES_NONE, x -> {
            one(x);
            x.due(479, "span 0 479");
            x.due(0, "count 4");
            x.due(MISSING, "undo");
        });
    }

    private static void price() {
        edges.edge(7, "PRICE (1 .. 9; 1 at first)", x -> {
            x.make("stop 30 479 0 0");
            x.due(1, "price 0 9");
            x.due(9, "price 0 1");
            x.due(NO, "price 0 0", "price 0 10", "price 0 -1", "price 0 LOW", "price 0 HIGH", "price 0 -9");
            x.due(1, "price 0 5");
        });
        edges.edge(7, "PRICE of a SOFT STOP: the one before.", x -> {
            x.make("street 0 1 10", "van 9 479 0", "stop 31 10 0 0", "stop 31 9 0 0", "put 0 0 0", "put 1 0 1");
            x.due(21, "cost 0");
            x.due(1, "price 0 9");
            x.due(21, "cost 0");
            x.due(1, "price 1 9");
            x.due(29, "cost 0");
            x.due(9, "price 1 2");
            x.due(22, "cost 0");
        });
        edges.edge(7, "BEYOND, KIND, NO.", x -> {
            x.due(BEYOND, "price 0 1", "price -1 0", "price 0 0");
            kinds(x);
            x.due(BEYOND, "price 5 1", "price -1 1", "price 5 0", "price LOW 10", "price HIGH 1");
            x.due(KIND, "price 0 1", "price 1 1", "price 2 1", "price 4 1", "price 0 0", "price 1 10", "price 2 LOW", "price 4 HIGH");
            x.due(NO, "price 3 0", "price 3 10");
            x.due(1, "price 3 1");
        });
        edges.edge(7, CHANGES_NOTHING, x -> {
            one(x);
            x.make("stop 31 9 0 0", "put 1 0 0");
            x.due(NO, "price 1 0", "price 1 10");
            x.due(KIND, "price 0 5");
            x.due(BEYOND, "price 2 5");
            x.due(1, "count 4");
            x.due(21, "cost 0");
        });
        edges.edge(7, LEAVES_NONE, x -> {
            one(x);
            x.make("stop 31 9 0 0", "put 1 0 0");
            x.due(1, "count 4", "price 1 1");
            x.due(0, "count 4");
            x.due(MISSING, "undo");
        });
    }

    private static void van() {
        edges.edge(8, "VANS 0 .. 2 as they come", x -> {
            x.due(NO, "van 0 479 0");
            for (int number = 0; number < 3; number++) x.due(number, "van 9 479 0");
            x.due(FULL, "van 9 479 0", "van 200 0 500");
            x.due(3, "count 1");
            x.due(0, "round 2 -1");
            x.due(BEYOND, "round 3 -1");
        });
        edges.edge(8, "a LOAD (1 .. 200)", x -> {
            x.due(NO, "van 0 479 0", "van 201 479 0", "van -1 479 0", "van LOW 479 0", "van HIGH 479 0");
            x.due(0, "van 1 479 0");
            x.due(1, "van 200 479 0");
            x.make("stop 0 479 1 0", "stop 0 479 2 0", "stop 0 479 50 0", "stop 0 479 50 0", "stop 0 479 50 0", "stop 0 479 49 0");
            x.due(0, "why 0 0 0");
            x.due(2, "why 1 0 0");
            x.make("put 2 1 0", "put 3 1 0", "put 4 1 0", "put 5 1 0");
            x.due(2, "why 1 1 4");
            x.due(0, "why 0 1 4");
        });
        edges.edge(8, "a FEE (0 .. 500)", x -> {
            x.due(NO, "van 9 479 -1", "van 9 479 501", "van 9 479 LOW", "van 9 479 HIGH");
            x.due(0, "van 9 479 0");
            x.due(1, "van 9 479 500");
            x.make("stop 0 479 0 0");
            x.due(0, "put 0 0 0");
            x.due(500, "move 0 1 0");
        });
    }

    private static void vanTold() {
        edges.edge(8, "SHIFT told as a SPAN", x -> {
            x.due(NO, "van 9 480 0", "van 9 -1 0", "van 9 479480 0", "van 9 480479 0", "van 9 100099 0", "van 9 1000 0");
            x.due(NO, "van 9 999 0", "van 9 480480 0", "van 9 HIGH 0", "van 9 LOW 0");
            x.due(0, "van 9 0 0");
            x.due(1, "van 9 479479 0");
            x.due(2, "van 9 100100 0");
            x.due(0, "shift 0 479");
            x.due(479479, "shift 1 479");
            x.due(100100, "shift 2 479");
        });
        edges.edge(8, "NO, FULL.", x -> {
            x.make("van 9 479 0", "van 9 479 0", "van 9 479 0");
            x.due(NO, "van 0 479 0", "van 201 479 0", "van 9 480 0", "van 9 479 -1", "van 9 479 501");
            x.due(FULL, "van 1 0 0", "van 200 479479 500");
        });
        edges.edge(8, CHANGES_NOTHING, x -> {
            one(x);
            x.make("van 8 478 1", "van 7 477 2", "take 0", "put 0 2 0");
            x.due(NO, "van 0 479 0", "van 9 480 0", "van 9 479 501");
            x.due(FULL, "van 9 479 0");
            x.due(2, "count 4");
            x.due(3, "count 1");
            x.due(22, "cost -1");
        });
        edges.edge(8, LEAVES_NONE, x -> {
            one(x);
            x.due(1, "count 4", "van 9 479 0");
            x.due(0, "count 4");
            x.due(MISSING, "undo");
            x.round(0, 0);
        });
    }

    private static void shift() {
        edges.edge(9, "SHIFT of a VAN: the one before.", x -> {
            x.make("van 9 7 0");
            x.due(7, "shift 0 0");
            x.due(0, "shift 0 479479");
            x.due(479479, "shift 0 100100");
            x.due(100100, "shift 0 479");
            x.due(NO, "shift 0 480", "shift 0 -1", "shift 0 479480", "shift 0 480479", "shift 0 100099", "shift 0 1000");
            x.due(NO, "shift 0 999", "shift 0 480480", "shift 0 HIGH", "shift 0 LOW");
            x.due(479, "shift 0 479");
        });
        edges.edge(9, "it comes to THE YARD behind the SHIFT's to", x -> {
            one(x);
            x.due(479, "shift 0 20");
            x.due(NO, "shift 0 19", "shift 0 1020");
            x.due(20, "shift 0 459479");
            x.due(479, "when 0 1 0");
            x.due(NO, "shift 0 460479", "shift 0 479479");
            x.due(459479, "shift 0 100120");
        });
        edges.edge(9, "(Of an empty ROUND nothing is done.)", x -> {
            one(x);
            x.make("van 9 479 500");
            x.due(NO, "shift 0 479479");
            x.due(479, "shift 1 479479", "shift 0 479");
            x.make("take 0");
            x.due(479, "shift 0 0");
            x.due(0, "cost -1", "cost 0", "cost 1");
        });
    }

    private static void shiftRefused() {
        edges.edge(9, "BEYOND, NO.", x -> {
            x.due(BEYOND, "shift 0 479", "shift -1 479", "shift 0 480");
            one(x);
            x.due(BEYOND, "shift 1 479", "shift -1 479", "shift 1 480", "shift -1 -1", "shift LOW 479", "shift HIGH HIGH");
            x.due(NO, "shift 0 480", "shift 0 19");
        });
        edges.edge(9, LATER_NO, x -> {
            one(x);
            x.make("span 0 30040");
            x.due(479, "shift 0 30050");
            x.due(NO, "shift 0 31050", "shift 0 30049", "shift 0 0");
            x.due(40, "when 0 0 1");
        });
        edges.edge(9, CHANGES_NOTHING, x -> {
            one(x);
            x.make("take 0", "put 0 0 0");
            x.due(NO, "shift 0 19", "shift 0 480");
            x.due(BEYOND, "shift 1 30");
            x.due(3, "count 4");
            x.due(479, "shift 0 479");
        });
        edges.edge(9, LEAVES_NONE, x -> {
            one(x);
            x.due(479, "shift 0 479");
            x.due(0, "count 4");
            x.due(MISSING, "undo");
        });
    }

    private static void look() {
        edges.edge(10, "Of a STOP: KIND (what = 0)", x -> {
            kinds(x);
            for (int stop = 0; stop < 5; stop++) x.due(stop, "look " + stop + " 0");
            x.due(NO, "look 0 -1", "look 0 7", "look 0 LOW", "look 0 HIGH", "look 4 7");
            x.due(NONE, "look 0 6");
        });
        edges.edge(10, "AMOUNT (2; of a DROP that of its FETCH)", x -> {
            x.make("stop 10 479 0 0", "stop 20 479 50 0", "stop 10 479 50 0", "stop 20 479 0 2", "stop 10 479 3 0");
            x.due(0, "look 0 2", "look 1 2", "look 0 3");
            x.due(50, "look 2 2", "look 3 2");
            x.due(3, "look 4 2");
        });
        edges.edge(10, "its FETCH, or its DROP (4; NONE)", x -> {
            kinds(x);
            x.due(NONE, "look 0 4", "look 3 4", "look 4 4");
            x.due(2, "look 1 4");
            x.due(1, "look 2 4");
            x.make("stop 10 479 0 0");
            x.due(NONE, "look 5 4");
            x.make("stop 20 479 0 5");
            x.due(6, "look 5 4");
            x.due(5, "look 6 4");
        });
        edges.edge(10, "the VAN in whose ROUND it is (5; NONE), its place there (6; NONE)", x -> {
            kinds(x);
            x.make("van 9 479 0", "van 9 479 0", "van 9 479 0");
            for (int stop = 0; stop < 5; stop++) x.due(NONE, "look " + stop + " 5", "look " + stop + " 6");
            x.make("put 0 2 0", "put 3 2 1", "put 4 0 0", "pair 1 2 0 3");
            int[][] want = {{2, 1}, {2, 0}, {2, 3}, {2, 2}, {0, 0}};
            for (int stop = 0; stop < 5; stop++) {
                x.due(want[stop][0], "look " + stop + " 5");
                x.due(want[stop][1], "look " + stop + " 6");
            }
            x.make("take 1");
            x.due(NONE, "look 1 5", "look 1 6", "look 2 5", "look 2 6");
            x.due(0, "look 0 6");
            x.make("clear");
            x.due(NONE, "look 0 5", "look 0 6", "look 4 5", "look 4 6");
        });
        edges.edge(10, "BEYOND, NO.", x -> {
            x.due(BEYOND, "look 0 0", "look 0 7", "look -1 0");
            kinds(x);
            x.due(BEYOND, "look 5 0", "look -1 0", "look 5 7", "look -1 -1", "look 12 0", "look LOW 0", "look HIGH HIGH");
            x.due(NO, "look 4 7", "look 0 -1");
        });
    }
}
