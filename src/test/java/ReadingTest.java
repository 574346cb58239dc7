import java.io.IOException;
import java.nio.file.Files;
import java.nio.file.Path;
import java.util.function.Consumer;

/**
 * The document read once from its first term to its last promise: each piece of it has a run of its own, and the
 * pieces follow one another in the document, so that none of its words is left out.
 */
public final class ReadingTest {
    private static final int NONE = Edges.NONE, MISSING = Edges.MISSING, BEYOND = Edges.BEYOND, BELOW = Edges.BELOW;
    private static final int KIND = Edges.KIND, COPY = Edges.COPY, NO = Edges.NO, FULL = Edges.FULL;

    private static final Path DOCUMENT = Path.of("../shared/DOC.md");
    /** What stands between two pieces and promises nothing: the number of a term, a promise's head, fences. */
    private static final String BETWEEN = "(?s)(\\s+|```(text)?|==== \\d|## Promise \\d+: [^`]*`[^`]*`:)*";

    /** What of the document hasn't been read yet. */
    private static String rest = "";
    private static boolean there;
    private static int pieces = 0;
    private static int wrong = 0;

    public static void main(String[] args) throws IOException {
        Watchdog.start("ReadingTest");
        there = Files.exists(DOCUMENT);
        if (there) rest = Files.readString(DOCUMENT).replaceAll("[ \\n]+", " ");
        goTo("==== 1 ");
        streets();
        ways();
        stops();
        kinds();
        vans();
        whyAndWhere();
        costs();
        changes();
        build();
        better();
        least();
        undos();
        goTo("## Promise 1:");
        promisesOfTheTown();
        promisesOfStops();
        promisesOfVans();
        promisesOfRounds();
        promisesOfPuts();
        promisesOfMoves();
        promisesOfPlans();
        promisesOfThePast();
        promisesOfRows();
        if (there && !rest.replaceFirst("^" + BETWEEN, "").startsWith("## Not promised")) fault("unread: " + rest);
        System.out.println(wrong == 0 ? pieces + " pieces of the document hold" : wrong + " answers are not as due");
        if (wrong != 0) System.exit(1);
    }

    private static void goTo(String start) {
        int at = rest.indexOf(start);
        if (at >= 0) rest = rest.substring(at);
        else if (there) fault("no " + start);
    }

    private static void fault(String text) {
        wrong++;
        System.out.println(text);
    }

    private static void read(String piece, Consumer<Run> steps) {
        pieces++;
        rest = rest.replaceFirst("^" + BETWEEN, "");
        if (rest.startsWith(piece)) rest = rest.substring(piece.length());
        else if (there) fault("\"" + piece + "\" isn't what follows: " + rest.substring(0, Math.min(90, rest.length())));
        Run run = new Run();
        steps.accept(run);
        run.end();
        for (String text : run.faults()) fault("\"" + piece + "\": " + text);
    }

    /** Places 1, 2, 3 on a line from the yard on, 10 minutes apart. */
    private static void line(Run x) {
        x.make("street 0 1 10", "street 1 2 10", "street 2 3 10");
    }

    /** Stops that bring nothing anywhere near, all day. */
    private static void bring(Run x, int... places) {
        for (int place : places) x.make("stop " + place + " 479 0 0");
    }

    private static void vans(Run x, int... fees) {
        for (int fee : fees) x.make("van 50 479 " + fee);
    }

    // ---- the terms

    private static void streets() {
        read("THE TOWN has PLACES 0 .. 7; PLACE 0 is THE YARD.", x -> {
            x.make("street 0 7 5", "van 9 100479 3", "stop 7 479 0 0", "stop 0 479 0 0");
            x.due(13, "put 0 0 0", "put 1 0 0");
            x.when(0, 0, 100, 100, 100, 0);
            x.when(0, 1, 105, 105, 105, 0);
            x.due(110, "when 0 2 0");
            x.due(BEYOND, "street 0 8 5", "street -1 0 5");
        });
        read("MINUTES are 0 .. 479 (8 HOURS of 60).", x -> {
            x.make("street 0 1 1");
            x.due(1, "slow 0 1 7 9");
            x.due(BEYOND, "slow 0 1 8 9", "slow 0 1 -1 9", "way 0 1 480", "way 0 1 -1");
            x.due(420, "way 0 1 419");
            x.due(429, "way 0 1 420");
            x.due(488, "way 0 1 479");
        });
        read("A STREET between two PLACES takes, in each HOUR, 1 .. 99 minutes, both ways, or there is none (at first).", x -> {
            x.due(NONE, "way 2 3 0", "way 3 2 479");
            x.due(MISSING, "slow 2 3 0 1");
            x.due(0, "street 2 3 99");
            for (int hour = 0; hour < 8; hour++) {
                x.due(99, "slow 3 2 " + hour + " " + (hour + 1));
                x.due(61 * hour + 1, "way 2 3 " + 60 * hour, "way 3 2 " + 60 * hour);
            }
        });
        read("Who sets out on it at minute t comes at the least of t + what it takes in t's HOUR, and, for each later HOUR, "
                + "its first minute + what it takes then.", x -> {
            x.make("street 0 1 90", "slow 0 1 3 5", "slow 0 1 5 1");
            x.due(90, "way 0 1 0");
            x.due(184, "way 0 1 94");
            x.due(185, "way 0 1 95", "way 1 0 96", "way 0 1 179", "way 0 1 180");
            x.due(244, "way 0 1 239");
            x.due(301, "way 0 1 240", "way 1 0 299", "way 0 1 300");
            x.due(360, "way 0 1 359");
            x.due(450, "way 0 1 360");
            x.due(569, "way 0 1 479");
        });
        read("(From minute 480 on nobody sets out on any.)", x -> {
            x.make("street 0 1 10", "street 1 2 1");
            x.due(489, "way 0 1 479");
            x.due(480, "way 0 2 469");
            x.due(NONE, "way 0 2 470", "way 0 2 479");
            x.due(480, "way 1 2 479");
        });
    }

    private static void ways() {
        read("A WAY at minute t: over STREETS, one after the other, so as to come as early as can be;", x -> {
            x.make("street 0 1 30", "street 1 2 30", "street 0 2 70");
            x.due(60, "way 0 2 0", "way 2 0 0");
            x.make("slow 1 2 0 99");
            x.due(70, "way 0 2 0");
            x.make("slow 0 2 0 95");
            x.due(90, "way 0 2 0");
            x.due(120, "way 0 2 60");
        });
        read("from a PLACE to itself over none, at t.", x -> {
            x.due(0, "way 5 5 0");
            x.due(479, "way 0 0 479");
            x.make("street 5 0 1");
            x.due(300, "way 5 5 300");
        });
    }

    private static void stops() {
        read("STOPS 0 .. 11 as they come, each of a KIND, at a PLACE, with a SPAN (from, to), SERVE (0 .. 60 minutes), an "
                + "AMOUNT (0 .. 50).", x -> {
            for (int k = 0; k < 12; k++) {
                x.due(k, "stop " + (40 + k % 8) + " " + (1001 * k + 400) + " " + (504 * k) + " 0");
                x.due(4, "look " + k + " 0");
                x.due(k % 8, "look " + k + " 1");
                x.due(4 * k, "look " + k + " 2");
                x.due(5 * k, "look " + k + " 3");
                x.due(1001 * k + 400, "span " + k + " 479");
            }
            x.due(FULL, "stop 0 479 0 0");
        });
    }

    private static void kinds() {
        read("KINDS: 0 BRING: its AMOUNT is aboard from the beginning of the round, and leaves the van there.", x -> {
            line(x);
            vans(x, 0);
            x.make("stop 1 479 30 0", "stop 1 479 20 0", "stop 1 479 1 0");
            x.due(20, "put 0 0 0", "put 1 0 1");
            x.when(0, 0, 10, 10, 10, 20);
            x.when(0, 1, 10, 10, 10, 0);
            x.due(2, "why 2 0 2");
            x.due(NONE, "where");
        });
        read("1 FETCH: it is taken aboard.", x -> {
            vans(x, 0);
            x.make("stop 10 479 30 0", "stop 10 479 20 0", "stop 10 479 1 0");
            x.due(0, "put 0 0 0", "put 1 0 1");
            x.when(0, 0, 0, 0, 0, 30);
            x.when(0, 1, 0, 0, 0, 50);
            x.due(2, "why 2 0 0", "where");
        });
        read("2 DROP: belongs to a FETCH that is told as it comes (each FETCH has at most one): what was taken aboard there "
                + "(that AMOUNT) leaves the van.", x -> {
            x.make("van 9 479 0", "stop 10 479 9 0", "stop 20 479 99 0");
            x.due(NO, "stop 20 479 0 0");
            x.due(9, "look 1 2");
            x.due(0, "look 1 4", "pair 0 0 0 1");
            x.when(0, 0, 0, 0, 0, 9);
            x.when(0, 1, 0, 0, 0, 0);
        });
        read("3 SOFT: as BRING, but may begin behind its SPAN, for PRICE (1 .. 9; 1 at first) a minute.", x -> {
            line(x);
            vans(x, 0);
            x.make("stop 31 7 40 0", "stop 0 479 11 0");
            x.due(23, "put 0 0 0");
            x.when(0, 0, 10, 10, 10, 0);
            x.due(1, "price 0 9");
            x.due(47, "cost 0");
            x.due(NO, "price 0 10", "price 0 0");
            x.due(2, "why 1 0 1");
            x.due(NONE, "where");
        });
        read("4 MUST: as BRING.", x -> {
            line(x);
            vans(x, 0);
            x.make("stop 41 7 40 0", "stop 0 479 11 0");
            x.due(3, "why 0 0 0");
            x.due(7, "span 0 10");
            x.due(20, "put 0 0 0");
            x.when(0, 0, 10, 10, 10, 0);
            x.due(2, "why 1 0 1");
            x.due(NONE, "where");
        });
    }

    private static void vans() {
        read("VANS 0 .. 2 as they come, each with a LOAD (1 .. 200), a SHIFT (from, to) and a FEE (0 .. 500).", x -> {
            x.due(0, "van 1 479 0");
            x.due(1, "van 200 479479 500");
            x.due(NO, "van 0 479 0", "van 201 479 0", "van 9 5004 0", "van 9 480 0", "van 9 479 501", "van 9 479 -1");
            x.due(2, "van 9 100200 250");
            x.due(FULL, "van 9 479 0");
            x.due(100200, "shift 2 479");
        });
        read("A ROUND of a VAN is a row of STOPS (each in one ROUND at most, 12 in all).", x -> {
            vans(x, 0, 0);
            bring(x, 0, 0, 0, 0, 0, 0, 0, 0, 0, 0, 0, 0);
            for (int stop = 0; stop < 12; stop++) x.due(0, "put " + stop + " 0 0");
            x.round(0, 11, 10, 9, 8, 7, 6, 5, 4, 3, 2, 1, 0);
            x.due(NO, "put 3 1 0", "put 3 0 12", "why 3 1 0");
            x.due(FULL, "stop 0 479 0 0");
        });
        read("It sets out from THE YARD at the beginning of its SHIFT, goes to each STOP by a WAY, BEGINS there as it comes, "
                + "or at the SPAN's from, if that is later, is there SERVE minutes, and goes on; at last back to THE YARD.", x -> {
            x.make("street 0 1 10", "street 1 2 20", "van 9 30400 0", "stop 2 100200 1500 0", "stop 1 479 500 0");
            x.due(100, "put 0 0 0", "put 1 0 1");
            x.when(0, 0, 60, 100, 115, 0);
            x.when(0, 1, 135, 135, 140, 0);
            x.due(150, "when 0 2 0");
        });
        read("(Of an empty ROUND nothing is done.)", x -> {
            x.make("van 9 300300 500");
            x.due(0, "cost 0", "cost -1", "count 5", "lay 0");
            x.due(BEYOND, "when 0 0 0", "row 0");
            x.due(300300, "shift 0 0");
        });
    }

    private static void whyAndWhere() {
        read("A ROUND FITS, if nothing of these is so;", x -> {
            line(x);
            vans(x, 0);
            x.make("stop 11 479 50 0", "stop 21 459459 1000 0", "stop 1 459 50 0");
            x.due(469, "pair 0 0 0 1");
            x.due(0, "why 2 0 0");
            x.due(NONE, "where");
            x.due(479, "when 0 2 0");
        });
        read("the first that is so, in this order, is WHY:", x -> {
            x.make("street 0 1 10", "van 8 19 0", "stop 11 479 9 0", "stop 21 9 0 0", "stop 11 9 9 0", "stop 11 9 8 0", "stop 11 10 8 0");
            x.due(1, "why 0 0 0", "why 1 0 0");
            x.due(2, "why 2 0 0");
            x.due(3, "why 3 0 0");
            x.due(4, "why 4 0 0");
            x.make("shift 0 20");
            x.due(0, "why 4 0 0");
        });
        read("1 there is a DROP without its FETCH ahead of it in this ROUND, or a FETCH that has a DROP, without that in this "
                + "ROUND;", x -> {
            vans(x, 0, 0);
            x.make("stop 10 479 1 0", "stop 20 479 0 0", "stop 10 479 1 0");
            x.due(1, "why 0 0 0", "why 1 0 0", "why 1 1 0");
            x.due(0, "why 2 0 0");
            x.due(NO, "pair 0 0 0 0");
            x.due(0, "pair 0 0 0 1");
            x.due(NO, "turn 0 0 1", "move 0 1 0", "move 1 1 0", "cross 0 1 1 0", "move 0 0 1", "move 1 0 0");
        });
        read("2 more than LOAD is aboard (ahead of the first STOP, or behind one);", x -> {
            x.make("van 30 479 0", "stop 0 479 20 0", "stop 10 479 20 0", "stop 10 479 10 0", "stop 0 479 11 0");
            x.due(0, "put 0 0 0");
            x.due(2, "why 1 0 0", "why 3 0 0", "why 3 0 1");
            x.due(0, "why 1 0 1", "why 2 0 0");
            x.due(0, "put 1 0 1", "put 2 0 2");
            x.when(0, 2, 0, 0, 0, 30);
        });
        read("3 there is no WAY to a STOP, or it BEGINS behind its SPAN's to (of a SOFT one not), or at minute 480 or later;", x -> {
            line(x);
            vans(x, 0);
            x.make("stop 4 479 0 0", "stop 3 29 0 0", "stop 33 29 0 0", "stop 0 450479 3000 0", "stop 30 5 0 0");
            x.due(3, "why 0 0 0", "why 1 0 0");
            x.due(0, "why 2 0 0", "put 4 0 0");
            x.due(3, "why 3 0 0");
            x.due(1, "where");
            x.due(4, "why 3 0 1");
        });
        read("4 there is no WAY back, or it comes to THE YARD behind the SHIFT's to.", x -> {
            line(x);
            vans(x, 0);
            x.make("stop 1 469469 100 0", "stop 1 469469 1000 0", "stop 1 469469 1100 0", "stop 1 469469 0 0");
            x.due(4, "why 0 0 0", "why 1 0 0", "why 2 0 0");
            x.due(0, "why 3 0 0");
            x.make("shift 0 478");
            x.due(4, "why 3 0 0");
        });
        read("WHERE: of 1, 3 the place in the ROUND of the first such STOP (of a FETCH without DROP its own),", x -> {
            line(x);
            vans(x, 0);
            x.make("stop 1 479 0 0", "stop 2 20 0 0", "stop 10 479 0 0", "stop 20 479 0 2", "stop 3 10 0 0");
            x.make("put 0 0 0", "put 1 0 1");
            x.due(1, "why 3 0 2");
            x.due(2, "where");
            x.due(1, "why 2 0 1", "where");
            x.due(3, "why 4 0 0");
            x.due(0, "where");
            x.due(3, "why 4 0 2");
            x.due(2, "where");
        });
        read("of 2 that behind which it is so (NONE: ahead of the first),", x -> {
            vans(x, 0);
            x.make("stop 0 479 50 0", "stop 10 479 50 0", "stop 10 479 1 0", "stop 0 479 1 0", "put 0 0 0", "put 1 0 1");
            x.due(2, "why 2 0 0");
            x.due(0, "where");
            x.due(2, "why 2 0 1");
            x.due(2, "where", "why 2 0 2", "where", "why 3 0 2");
            x.due(NONE, "where");
        });
        read("of 4 how many STOPS it has.", x -> {
            line(x);
            x.make("van 9 40 0");
            bring(x, 1, 2, 3);
            x.due(4, "why 2 0 0");
            x.due(1, "where");
            x.make("put 0 0 0", "put 1 0 1");
            x.due(4, "why 2 0 0");
            x.due(3, "where");
        });
    }

    private static void costs() {
        read("COST of a ROUND that FITS: all minutes from its beginning till it is back, less all SERVE, and for each SOFT "
                + "STOP that BEGINS behind its SPAN PRICE for each minute, and FEE; of an empty one 0.", x -> {
            line(x);
            x.make("van 9 100400 50", "stop 1 200300 700 0", "stop 31 190 300 0");
            x.due(0, "cost 0");
            x.due(160, "put 0 0 0");
            x.due(177, "put 1 0 1");
            x.make("price 1 3");
            x.due(211, "cost 0");
        });
        read("COST of THE PLAN: of all ROUNDS.", x -> {
            vans(x, 1, 20, 300);
            bring(x, 0, 0, 0);
            x.due(1, "put 0 0 0");
            x.due(21, "put 1 1 0");
            x.due(321, "put 2 2 0", "cost -1");
            x.due(301, "take 1", "cost -1");
        });
        read("In THE PLAN all ROUNDS FIT; what would be otherwise is refused (NO).", x -> {
            line(x);
            x.make("van 9 25 0", "van 9 24 0");
            bring(x, 1, 2, 1);
            x.due(20, "put 0 0 0");
            x.due(NO, "put 1 0 0", "put 1 1 0", "slow 0 1 0 13", "street 1 0 0", "street 0 1 13", "span 0 9", "shift 0 19");
            x.due(1, "street 0 1 12");
            x.due(12, "when 0 0 0");
            x.due(24, "cost 0", "move 0 1 0");
            x.due(NO, "shift 1 23", "slow 0 1 0 13");
        });
    }

    private static void changes() {
        read("CHANGES of THE PLAN: a STOP is PUT into a ROUND ahead of its i-th STOP;", x -> {
            vans(x, 0);
            bring(x, 0, 0, 0, 0);
            x.make("put 0 0 0", "put 1 0 0", "put 2 0 1", "put 3 0 3");
            x.round(0, 1, 2, 0, 3);
        });
        read("one is TAKEN out (a FETCH with its DROP, a DROP with its FETCH: both go);", x -> {
            vans(x, 0);
            x.make("stop 10 479 5 0", "stop 0 479 0 0", "stop 20 479 0 0", "put 1 0 0", "pair 0 0 0 2");
            x.round(0, 0, 1, 2);
            x.make("take 0");
            x.round(0, 1);
            x.make("pair 0 0 0 1", "take 2");
            x.round(0, 1);
            x.make("take 1");
            x.round(0);
        });
        read("one MOVES (it is taken out alone, then PUT).", x -> {
            vans(x, 0, 0);
            x.make("stop 10 479 5 0", "stop 20 479 0 0", "stop 0 479 0 0", "put 2 0 0", "pair 0 0 0 1");
            x.round(0, 0, 1, 2);
            x.make("move 1 0 2");
            x.round(0, 0, 2, 1);
            x.due(NO, "move 0 1 0", "move 0 0 2");
            x.make("move 2 1 0");
            x.round(0, 0, 1);
            x.round(1, 2);
        });
        read("ENDS are CROSSED: what stands from place i on in one ROUND, and from j on in another one, change.", x -> {
            vans(x, 0, 0);
            bring(x, 0, 0, 0, 0, 0);
            x.make("put 0 0 0", "put 1 0 1", "put 2 0 2", "put 3 1 0", "put 4 1 1");
            x.make("cross 0 1 1 1");
            x.round(0, 0, 4);
            x.round(1, 3, 1, 2);
            x.make("cross 1 0 0 2");
            x.round(0, 0, 4, 3, 1, 2);
            x.round(1);
        });
        read("A ROW of a ROUND is TURNED: STOPS i to j in the other order.", x -> {
            vans(x, 0);
            bring(x, 0, 0, 0, 0, 0);
            for (int stop = 0; stop < 5; stop++) x.make("put " + stop + " 0 " + stop);
            x.make("turn 0 1 3");
            x.round(0, 0, 3, 2, 1, 4);
            x.make("turn 0 0 4");
            x.round(0, 4, 1, 2, 3, 0);
            x.make("turn 0 3 4");
            x.round(0, 4, 1, 2, 0, 3);
        });
    }

    private static void build() {
        read("BUILD: again and again, of all STOPS that are in no ROUND (of a FETCH with a DROP: with that one; DROPS aside), "
                + "VANS, and places where it can be PUT, so that all ROUNDS FIT, that by which COST grows least;", x -> {
            line(x);
            vans(x, 7, 3);
            x.make("stop 3 479 0 0", "stop 12 479 50 0", "stop 21 479 0 1", "stop 1 479 1 0", "stop 4 479 0 0");
            // stop 3 alone costs 23, then the pair 20 more, then stop 0 20 more; nobody comes to stop 4
            x.due(4, "build");
            x.round(0);
            x.round(1, 3, 0, 1, 2);
            x.due(63, "cost -1");
            x.due(NONE, "look 4 5");
        });
        read("of these the least STOP, VAN, place (of FETCH and DROP: place of the FETCH, then of the DROP, told in the ROUND "
                + "with the FETCH in it).", x -> {
            vans(x, 0, 0);
            bring(x, 0, 0);
            x.make("stop 10 479 5 0", "stop 20 479 0 2");
            x.due(4, "build");
            x.round(0, 2, 3, 1, 0);
            x.round(1);
        });
    }

    private static void better() {
        read("BETTER: the first MOVE by which COST becomes less, STOPS by numbers (of those in ROUNDS), VANS by numbers, "
                + "places from 0 on.", x -> {
            line(x);
            vans(x, 5, 5);
            bring(x, 1, 2, 3, 2);
            x.make("put 1 0 0", "put 0 0 1", "put 2 1 0", "put 3 1 1");
            x.due(110, "cost -1");
            // nothing is gained by stop 0; stop 1 to the place ahead of it in van 1 leaves van 0 with stop 0
            x.due(1, "better 1");
            x.round(0, 0);
            x.round(1, 1, 2, 3);
            x.due(90, "cost -1");
            // then stop 0 to van 1, which leaves nothing to be gained
            x.due(1, "better 100");
            x.round(0);
            x.round(1, 0, 1, 2, 3);
            x.due(65, "cost -1");
        });
    }

    private static void least() {
        read("LEAST: for at most 5 STOPS, and 2 VANS: of all plans in which all ROUNDS FIT:", x -> {
            vans(x, 0, 0);
            bring(x, 0, 0, 0, 0, 0);
            x.due(5, "least");
            x.round(0, 0, 1, 2, 3, 4);
            bring(x, 0);
            x.due(FULL, "least");
        });
        read("those with the most MUST STOPS;", x -> {
            line(x);
            x.make("van 9 60 0", "stop 1 10 100 0", "stop 1 11 100 0", "stop 43 30 0 0");
            x.due(1, "least");
            x.round(0, 2);
            x.due(0, "count 3");
        });
        read("of these with the most STOPS;", x -> {
            line(x);
            x.make("van 9 60 500", "stop 3 30 0 0", "stop 1 11 100 0", "stop 1 12 100 0");
            x.due(2, "least");
            x.round(0, 1, 2);
        });
        read("of these of the least COST;", x -> {
            line(x);
            vans(x, 9, 8);
            bring(x, 3, 1, 2);
            x.due(3, "least");
            x.due(68, "cost -1");
            x.round(0);
        });
        read("of these the least as a row of numbers: STOPS of VAN 0, then 99, STOPS of VAN 1, then 99 (of fewer VANS those "
                + "that there are; the first number that differs is less).", x -> {
            line(x);
            vans(x, 0, 0);
            bring(x, 3, 1, 2);
            x.due(3, "least");
            // 0 1 2 costs 80; of those that go out and home but once, at 60, this is the least row
            x.round(0, 0, 2, 1);
            x.round(1);
            x.due(60, "cost -1");
        });
    }

    private static void undos() {
        read("UNDO: each call by which THE PLAN became another one can be taken back, the latest first, 20 at most;", x -> {
            vans(x, 0);
            bring(x, 0, 0);
            x.make("put 0 0 0", "put 1 0 1");
            for (int k = 0; k < 19; k++) x.make("turn 0 0 1");
            x.due(20, "count 4");
            for (int k = 0; k < 20; k++) x.due(0, "undo");
            x.due(MISSING, "undo");
            x.round(0, 0);
        });
        read("a call that tells of STREETS, STOPS, VANS (street() to shift()) and isn't refused leaves none.", x -> {
            vans(x, 0);
            x.make("stop 30 479 0 0");
            for (String call : new String[] {"street 0 1 9", "slow 0 1 0 9", "stop 0 479 0 0", "span 0 479", "price 0 1",
                    "van 9 479 0", "shift 0 479"}) {
                x.make("put 0 0 0", "take 0");
                x.due(2, "count 4");
                x.make(call);
                x.due(0, "count 4");
                x.due(MISSING, "undo");
            }
        });
        read("Such a call is refused (NO), if some ROUND wouldn't FIT any more.", x -> {
            line(x);
            x.make("van 9 20 0", "stop 1 10 0 0", "put 0 0 0");
            x.due(NO, "street 0 1 0", "street 0 1 11", "slow 0 1 0 11", "span 0 9", "shift 0 19", "shift 0 1100");
            x.due(1, "count 4");
            x.due(0, "undo");
        });
        read("REFUSALS, of several the first as each line has them: BEYOND a number beyond, MISSING nothing there, KIND a "
                + "STOP of another kind, BELOW a count below 0, COPY, NO not as told, FULL no room.", x -> {
            x.due(BEYOND, "slow 0 8 0 0");
            x.due(MISSING, "slow 0 1 0 0", "undo");
            bring(x, 0);
            x.due(KIND, "price 0 0");
            x.due(BELOW, "better -1");
            vans(x, 0, 0, 0);
            x.make("lay 0");
            x.due(BELOW, "copy -1 0 -1");
            x.due(COPY, "copy -1 0 0");
            x.due(NO, "van 0 479 0");
            x.due(FULL, "van 1 479 0", "least");
        });
        read("A refused call changes nothing but status().", x -> {
            vans(x, 0);
            bring(x, 0);
            x.make("put 0 0 0");
            x.due(NO, "put 0 0 0", "why 0 0 0", "look 0 7");
            x.due(3, "status -7");
            x.due(1, "count 4");
            x.due(0, "undo");
        });
    }

    // ---- the promises

    private static void promisesOfTheTown() {
        read("No STREETS, STOPS, VANS.", x -> {
            x.due(0, "count 0", "count 1", "street 0 1 0", "street 6 7 5");
            x.due(NONE, "way 0 1 0");
            x.due(7, "way 6 7 2");
        });
        read("A STREET takes m minutes in all HOURS (0: there is none): 1 if there was one, else 0. BEYOND (PLACES), NO: m, a "
                + "PLACE and itself, a ROUND wouldn't FIT.", x -> {
            x.due(0, "street 3 4 99");
            x.due(1, "street 4 3 2");
            for (int hour = 0; hour < 8; hour++) x.due(2, "slow 3 4 " + hour + " 3");
            x.due(1, "street 3 4 0");
            x.due(0, "street 3 4 0");
            x.due(BEYOND, "street 8 8 -1", "street -1 0 100");
            x.due(NO, "street 3 4 -1", "street 3 4 100", "street 3 3 5", "street 3 3 0");
        });
        read("A STREET takes m minutes in an HOUR: what it took. BEYOND (PLACES, HOUR), MISSING: there is none; NO.", x -> {
            x.make("street 0 1 9");
            x.due(9, "slow 0 1 2 40");
            x.due(40, "slow 1 0 2 41");
            x.due(9, "slow 1 0 1 1");
            x.due(BEYOND, "slow 0 8 0 0", "slow 8 0 0 0", "slow 2 3 8 0", "slow 0 1 -1 0");
            x.due(MISSING, "slow 2 3 0 0", "slow 0 0 0 5");
            x.due(NO, "slow 0 1 0 0", "slow 0 1 0 100");
        });
        read("When one comes by a WAY that sets out at a minute (0 .. 479); NONE: there is none. BEYOND (PLACES, minute).", x -> {
            line(x);
            x.due(39, "way 0 3 9");
            x.due(489, "way 0 1 479");
            x.due(NONE, "way 0 4 0");
            x.due(BEYOND, "way 0 1 480", "way 0 1 -1", "way 8 0 0", "way 0 8 0");
        });
    }

    private static void promisesOfStops() {
        read("A STOP: its number. KIND and PLACE told as 10 * KIND + PLACE, its SPAN as 1000 * from + to (0 .. 479 each, from "
                + "not behind to), SERVE and AMOUNT as 100 * SERVE + AMOUNT; of a DROP its FETCH (of others it doesn't matter; "
                + "AMOUNT of a DROP neither).", x -> {
            x.due(0, "stop 47 479479 6050 99");
            x.due(1, "stop 10 0 1 -5");
            x.due(2, "stop 25 100200 3077 1");
            looks(x, 0, 4, 7, 50, 60, NONE, NONE, NONE);
            looks(x, 1, 1, 0, 1, 0, 2, NONE, NONE);
            looks(x, 2, 2, 5, 1, 30, 1, NONE, NONE);
            x.due(479479, "span 0 0");
            x.due(0, "span 1 0");
            x.due(100200, "span 2 0");
        });
        read("BEYOND: PLACE (told below 0, too), FETCH: no STOP; KIND: that is no FETCH; NO: KIND, SPAN, SERVE, AMOUNT, the "
                + "FETCH has a DROP, or stands in a ROUND; FULL.", x -> {
            vans(x, 0);
            x.due(BEYOND, "stop 8 480 -1 0", "stop -1 479 0 0", "stop 29 479 0 0", "stop 20 480 -1 0", "stop 20 479 0 -1");
            bring(x, 0);
            x.due(KIND, "stop 20 480 -1 0");
            x.make("stop 10 479 5 0", "put 1 0 0");
            x.due(NO, "stop 50 479 0 0", "stop 0 5004 0 0", "stop 0 480 0 0", "stop 0 479 6100 0", "stop 0 479 51 0");
            x.due(NO, "stop 20 479 0 1");
            x.make("take 1");
            x.due(2, "stop 20 479 0 1");
            x.due(NO, "stop 20 479 0 1");
            bring(x, 0, 0, 0, 0, 0, 0, 0, 0);
            x.make("stop 10 479 0 0");
            x.due(BEYOND, "stop 20 479 0 12");
            x.due(KIND, "stop 20 479 0 10");
            x.due(NO, "stop 20 479 0 1", "stop 0 480 0 0");
            x.due(FULL, "stop 20 479 0 11", "stop 0 479 0 0");
        });
        read("SPAN of a STOP (told likewise): the one before. BEYOND, NO.", x -> {
            x.due(BEYOND, "span 0 480");
            x.make("stop 0 5100 0 0");
            x.due(5100, "span 0 479479");
            x.due(479479, "span 0 0");
            x.due(NO, "span 0 480", "span 0 1000", "span 0 480480", "span 0 -1");
        });
        read("PRICE of a SOFT STOP: the one before. BEYOND, KIND, NO.", x -> {
            x.make("stop 0 479 0 0", "stop 30 479 0 0");
            x.due(BEYOND, "price 2 0");
            x.due(KIND, "price 0 0");
            x.due(NO, "price 1 0", "price 1 10");
            x.due(1, "price 1 9");
            x.due(9, "price 1 1");
        });
    }

    /** What look() answers of a stop, what by what. */
    private static void looks(Run x, int stop, int... want) {
        for (int what = 0; what < want.length; what++) x.due(want[what], "look " + stop + " " + what);
    }

    private static void promisesOfVans() {
        read("A VAN: its number; SHIFT told as a SPAN. NO, FULL.", x -> {
            x.due(0, "van 9 0 0");
            x.due(1, "van 9 479479 0");
            x.due(2, "van 9 200300 0");
            x.due(NO, "van 9 480 0", "van 9 1000 0", "van 0 479 0");
            x.due(FULL, "van 9 479 0");
        });
        read("SHIFT of a VAN: the one before. BEYOND, NO.", x -> {
            x.due(BEYOND, "shift 0 480");
            x.make("van 9 5100 0");
            x.due(5100, "shift 0 479");
            x.due(479, "shift 0 478478");
            x.due(NO, "shift 0 480", "shift 0 9008", "shift 0 -1");
        });
        read("Of a STOP: KIND (what = 0), PLACE (1), AMOUNT (2; of a DROP that of its FETCH), SERVE (3), its FETCH, or its DROP "
                + "(4; NONE), the VAN in whose ROUND it is (5; NONE), its place there (6; NONE). BEYOND, NO.", x -> {
            vans(x, 0, 0);
            x.make("street 0 2 1", "stop 12 479 908 0", "stop 20 479 1001 0", "stop 2 479 300 0", "put 2 1 0", "pair 0 1 1 2");
            looks(x, 0, 1, 2, 8, 9, 1, 1, 1);
            looks(x, 1, 2, 0, 8, 10, 0, 1, 2);
            looks(x, 2, 0, 2, 0, 3, NONE, 1, 0);
            x.make("take 1");
            looks(x, 0, 1, 2, 8, 9, 1, NONE, NONE);
            x.due(BEYOND, "look 3 7", "look -1 0");
            x.due(NO, "look 0 7", "look 0 -1");
        });
    }

    private static void promisesOfRounds() {
        read("STOP i of a ROUND, from 0 (i = NONE: how many it has). BEYOND (VAN, i).", x -> {
            vans(x, 0, 0);
            bring(x, 0, 0, 0);
            x.make("put 2 1 0", "put 0 1 1");
            x.due(2, "round 1 -1", "round 1 0");
            x.due(0, "round 1 1", "round 0 -1");
            x.due(BEYOND, "round 1 2", "round 1 -2", "round 0 0", "round 2 -1", "round -1 -1");
        });
        read("When a VAN comes to STOP i of its ROUND (what = 0), BEGINS (1), leaves (2), what is aboard then (3); of i = how "
                + "many it has: when it is back (0). BEYOND (VAN, i, an empty ROUND), NO.", x -> {
            line(x);
            vans(x, 0, 0);
            x.make("stop 1 15479 307 0", "stop 12 479 509 0", "put 0 0 0", "put 1 0 1");
            x.when(0, 0, 10, 15, 18, 0);
            x.when(0, 1, 28, 28, 33, 9);
            x.due(53, "when 0 2 0");
            x.due(NO, "when 0 2 1", "when 0 2 3", "when 0 0 4", "when 0 0 -1", "when 0 2 4");
            x.due(BEYOND, "when 0 3 4", "when 0 -1 0", "when 1 0 0", "when 1 0 4", "when 2 0 0", "when -1 0 0");
        });
        read("COST of a ROUND, or of THE PLAN (van = NONE). BEYOND.", x -> {
            line(x);
            vans(x, 5, 7);
            bring(x, 1, 2);
            x.make("put 0 0 0", "put 1 1 0");
            x.due(25, "cost 0");
            x.due(47, "cost 1");
            x.due(72, "cost -1");
            x.due(BEYOND, "cost 2", "cost -2");
        });
        read("WHY a STOP can't be PUT ahead of place i of a ROUND: 0 it can, 1 .. 4. BEYOND (STOP, VAN, i), NO: it is in a "
                + "ROUND.", x -> {
            line(x);
            x.make("van 50 30 0", "stop 1 479 0 0", "stop 1 9 0 0", "put 0 0 0", "stop 2 479 0 0");
            x.due(3, "why 1 0 0", "why 1 0 1");
            x.due(4, "why 2 0 0", "why 2 0 1");
            x.due(NO, "why 0 0 0", "why 0 0 1");
            x.due(BEYOND, "why 0 0 2", "why 3 0 0", "why 1 1 0", "why 1 0 -1", "why -1 0 0");
            x.round(0, 0);
        });
        read("WHERE, of the latest why(); NONE: it could be PUT, or there was none.", x -> {
            line(x);
            vans(x, 0);
            bring(x, 1, 4);
            x.due(NONE, "where");
            x.due(3, "why 1 0 0");
            x.due(0, "where", "why 0 0 0");
            x.due(NONE, "where");
            x.make("put 0 0 0");
            x.due(3, "why 1 0 1");
            x.due(NO, "why 0 0 0");
            x.due(1, "where");
        });
    }

    private static void promisesOfPuts() {
        read("A STOP is PUT: COST of THE PLAN. BEYOND (STOP, VAN, i), NO: it is in a ROUND, or that wouldn't FIT.", x -> {
            line(x);
            vans(x, 5, 7);
            bring(x, 1, 2, 4);
            x.due(25, "put 0 0 0");
            x.due(72, "put 1 1 0");
            x.due(NO, "put 0 0 0", "put 0 1 1", "put 2 0 0");
            x.due(BEYOND, "put 0 0 2", "put 2 1 -1", "put 2 2 0", "put 3 0 0");
        });
        read("A FETCH is PUT ahead of place i, then its DROP ahead of place j of the ROUND with it: COST of THE PLAN. BEYOND "
                + "(STOP, VAN), KIND: it is no FETCH; MISSING: it has no DROP; BEYOND (i, j); NO.", x -> {
            line(x);
            vans(x, 5);
            x.make("stop 12 479 1 0", "stop 21 479 0 0", "stop 3 479 0 0", "stop 10 479 1 0", "put 2 0 0");
            x.due(BEYOND, "pair 4 0 9 9", "pair 2 1 9 9", "pair 0 0 2 0", "pair 0 0 0 3", "pair 0 0 -1 0", "pair 0 0 0 -1");
            x.due(KIND, "pair 2 0 9 9", "pair 1 0 0 0");
            x.due(MISSING, "pair 3 0 9 9");
            x.due(NO, "pair 0 0 0 0", "pair 0 0 1 1");
            x.due(65, "pair 0 0 0 2");
            x.round(0, 0, 2, 1);
            x.due(NO, "pair 0 0 0 1");
        });
        read("A STOP is TAKEN out: COST of THE PLAN. BEYOND, NO: it is in no ROUND, or a ROUND wouldn't FIT.", x -> {
            line(x);
            vans(x, 5);
            bring(x, 1, 3);
            x.make("put 0 0 0", "put 1 0 1");
            x.due(BEYOND, "take 2", "take -1");
            x.due(25, "take 1");
            x.due(NO, "take 1");
            x.due(0, "take 0");
        });
    }

    private static void promisesOfMoves() {
        read("A STOP MOVES to place i of a ROUND (as that is without it): COST of THE PLAN. BEYOND (STOP, VAN), NO: it is in no "
                + "ROUND; BEYOND (i), NO.", x -> {
            line(x);
            vans(x, 5, 5);
            bring(x, 1, 3, 2, 1);
            x.make("put 0 0 0", "put 1 0 1");
            x.due(BEYOND, "move 4 0 9", "move 2 2 9");
            x.due(NO, "move 2 0 9");
            x.due(BEYOND, "move 0 0 2", "move 0 1 1", "move 0 0 -1");
            x.due(65, "move 0 0 1");
            x.round(0, 1, 0);
            x.due(90, "move 0 1 0");
            x.make("shift 1 20");
            x.due(NO, "move 1 1 0");
        });
        read("ENDS are CROSSED (i, j 0 .. how many there are): COST of THE PLAN. BEYOND (VANS, i, j), NO: one VAN and itself, it "
                + "wouldn't FIT.", x -> {
            line(x);
            x.make("van 50 479 5", "van 50 60 5");
            bring(x, 1, 3, 2);
            x.make("put 0 0 0", "put 1 0 1", "put 2 1 0");
            x.due(BEYOND, "cross 0 3 1 0", "cross 0 0 1 2", "cross 2 0 0 0", "cross 0 0 2 0", "cross 0 3 0 0", "cross 0 -1 1 0");
            x.due(NO, "cross 0 0 0 1", "cross 1 1 1 1");
            x.due(90, "cross 0 1 1 1");
            x.round(0, 0);
            x.round(1, 2, 1);
            x.make("shift 0 59");
            x.due(NO, "cross 0 1 1 0");
        });
        read("STOPS i to j are TURNED: COST of THE PLAN. BEYOND (VAN, places), NO: i is not below j, it wouldn't FIT.", x -> {
            line(x);
            vans(x, 5);
            x.make("stop 1 10 0 0", "stop 3 479 0 0", "stop 2 479 0 0", "put 0 0 0", "put 1 0 1", "put 2 0 2");
            x.due(65, "turn 0 1 2");
            x.round(0, 0, 2, 1);
            x.due(BEYOND, "turn 1 0 1", "turn 0 0 3", "turn 0 -1 1", "turn 0 3 3");
            x.due(NO, "turn 0 1 1", "turn 0 2 1", "turn 0 0 1");
        });
    }

    private static void promisesOfPlans() {
        read("BUILD: how many STOPS were PUT (DROPS, too).", x -> {
            vans(x, 0);
            x.make("stop 10 479 5 0", "stop 20 479 0 0", "stop 0 479 0 0", "stop 4 479 0 0");
            x.due(3, "build");
            x.due(0, "build");
            x.make("take 0");
            x.due(2, "build");
        });
        read("BETTER, n times at most (0 .. 100): how many were done. BELOW, NO.", x -> {
            line(x);
            vans(x, 0, 0);
            bring(x, 3, 3, 3);
            x.make("put 0 0 0", "put 1 1 0", "put 2 1 1");
            x.due(0, "better 0");
            x.due(1, "better 1");
            x.due(0, "better 100");
            x.round(0);
            x.round(1, 0, 1, 2);
            x.due(BELOW, "better -1");
            x.due(NO, "better 101");
        });
        read("LEAST: THE PLAN becomes it: how many STOPS are in it. FULL: there are more STOPS, or VANS.", x -> {
            line(x);
            vans(x, 9, 9);
            bring(x, 3, 2, 1, 4);
            x.make("put 0 0 0", "put 1 1 0");
            x.due(3, "least");
            x.round(0, 0, 1, 2);
            x.due(69, "cost -1");
            vans(x, 0);
            x.due(FULL, "least");
        });
    }

    private static void promisesOfThePast() {
        read("The latest change of THE PLAN is taken back: its COST. MISSING: there is none.", x -> {
            line(x);
            vans(x, 5);
            bring(x, 1, 2);
            x.due(MISSING, "undo");
            x.make("put 0 0 0", "put 1 0 1");
            x.due(0, "better 5");
            x.due(2, "clear");
            x.due(45, "undo");
            x.due(25, "undo");
            x.due(0, "undo");
            x.due(MISSING, "undo");
        });
        read("All ROUNDS are empty: how many STOPS were in them.", x -> {
            vans(x, 1, 1, 1);
            bring(x, 0, 0, 0, 0);
            x.due(0, "clear");
            x.make("put 0 0 0", "put 1 1 0", "put 2 2 0");
            x.due(3, "clear");
            for (int van = 0; van < 3; van++) x.round(van);
            x.due(0, "cost -1", "clear");
        });
        read("STOPS (what = 0), VANS (1), STOPS in no ROUND (2), MUST STOPS of these (3), changes that can be taken back (4), "
                + "all minutes of waiting ahead of SPANS (5), minutes behind SPANS of SOFT ones (6). NO.", x -> {
            line(x);
            vans(x, 0, 0);
            x.make("stop 1 25479 0 0", "stop 31 4 0 0", "stop 41 479 0 0", "stop 41 479 0 0", "stop 32 19479 0 0");
            x.make("put 0 0 0", "put 1 0 1", "put 4 1 0", "put 2 1 1");
            // van 0 waits 15 minutes and begins 21 too late, van 1 waits for nothing
            counts(x, 5, 2, 1, 1, 4, 15, 21);
            x.make("take 2", "take 1");
            counts(x, 5, 2, 3, 2, 6, 15, 0);
            x.due(NO, "count 7", "count -1");
        });
    }

    /** What count() answers, what by what. */
    private static void counts(Run x, int... want) {
        for (int what = 0; what < want.length; what++) x.due(want[what], "count " + what);
    }

    private static void promisesOfRows() {
        read("THE ROW becomes when a VAN BEGINS at its STOPS: how many. BEYOND.", x -> {
            line(x);
            vans(x, 0, 0);
            x.make("stop 1 25479 0 0", "stop 2 479 0 0", "put 0 0 0", "put 1 0 1");
            x.due(2, "lay 0");
            x.row(25, 35);
            x.due(BEYOND, "lay 2", "lay -1");
            x.row(25, 35);
            x.due(0, "lay 1");
            x.row();
        });
        read("THE ROW is missing: 1 if it was there, else 0 (at first it is missing).", x -> {
            vans(x, 0);
            x.due(0, "tear");
            x.make("lay 0");
            x.due(1, "tear");
            x.due(0, "tear");
            x.due(MISSING, "row 0", "copy 0 0 0");
        });
        read("Number i of THE ROW. MISSING, BEYOND.", x -> {
            vans(x, 0);
            bring(x, 0);
            x.due(MISSING, "row 0", "row -1");
            x.make("put 0 0 0", "span 0 7479", "lay 0", "take 0");
            x.due(7, "row 0");
            x.due(BEYOND, "row 1", "row -1");
        });
        read("n numbers of THE ROW, from place i on, come to its place j on (as they were): n. MISSING, BELOW: n; COPY: i or j "
                + "below 0, i + n or j + n above how many there are.", x -> {
            line(x);
            vans(x, 0);
            bring(x, 0, 1, 2, 3);
            x.due(MISSING, "copy -1 -1 -1");
            x.make("put 0 0 0", "put 1 0 1", "put 2 0 2", "put 3 0 3", "lay 0");
            x.due(3, "copy 0 1 3");
            x.row(0, 0, 10, 20);
            x.due(2, "copy 2 0 2");
            x.row(10, 20, 10, 20);
            x.due(0, "copy 4 4 0", "copy 0 4 0");
            x.due(BELOW, "copy -1 -1 -1");
            x.due(COPY, "copy -1 0 1", "copy 0 -1 1", "copy 1 0 4", "copy 0 1 4", "copy 5 0 0", "copy 0 5 0", "copy HIGH 0 HIGH");
        });
        read("How many calls were refused by an answer -2 .. -8. NO: another number.", x -> {
            for (int by = -8; by <= -2; by++) x.due(0, "status " + by);
            x.due(NO, "status -1", "status -9", "status 0", "status 7");
            x.due(4, "status -7");
            x.due(MISSING, "undo");
            x.due(1, "status -2");
        });
    }
}
