import java.io.IOException;

/** The edges of promises 16 to 21: stops that are put, taken and moved, ends crossed and rows turned. */
public final class ChangeEdgesTest {
    private static final int NONE = Edges.NONE, MISSING = Edges.MISSING, BEYOND = Edges.BEYOND, KIND = Edges.KIND;
    private static final int NO = Edges.NO;
    private static final String CHANGES_NOTHING = "A refused call changes nothing but status().";
    private static final String ALL_FIT = "In THE PLAN all ROUNDS FIT; what would be otherwise is refused (NO).";

    private static Edges edges;

    public static void main(String[] args) throws IOException {
        edges = new Edges("ChangeEdgesTest");
        put();
        putRefused();
        putIntoFull();
        pair();
        pairRefused();
        take();
        takeRefused();
        move();
        moveRefused();
        movePair();
        cross();
        crossOfOnes();
        crossRefused();
        crossFull();
        turn();
        turnRefused();
        edges.end(16, 21);
    }

    /** Yard, then places 1, 2, 3 on a line, 10 minutes apart; two vans all day, LOAD 100, for nothing. */
    private static void line(Run x) {
        x.make("street 0 1 10", "street 1 2 10", "street 2 3 10", "van 100 479 0", "van 100 479 0");
    }

    /** The line with BRING stops 0, 1, 2 at places 1, 2, 3. */
    private static void three(Run x) {
        line(x);
        x.make("stop 1 479 0 0", "stop 2 479 0 0", "stop 3 479 0 0");
    }

    /** The line with FETCH 0 at 1, its DROP 1 at 3, BRING 2 at 2, FETCH 3 alone at 1. */
    private static void mixed(Run x) {
        line(x);
        x.make("stop 11 479 20 0", "stop 23 479 0 0", "stop 2 479 10 0", "stop 11 479 5 0");
    }

    private static void put() {
        edges.edge(16, "a STOP is PUT into a ROUND ahead of its i-th STOP", x -> {
            three(x);
            x.make("stop 0 479 0 0", "stop 0 479 0 0");
            x.due(40, "put 1 0 0");
            x.due(40, "put 0 0 0");
            x.due(60, "put 2 0 2");
            x.round(0, 0, 1, 2);
            x.due(60, "put 3 0 0", "put 4 0 4");
            x.round(0, 3, 0, 1, 2, 4);
            x.round(1);
        });
        edges.edge(16, "A STOP is PUT: COST of THE PLAN.", x -> {
            three(x);
            x.due(20, "put 0 0 0");
            x.due(80, "put 2 1 0");
            x.due(80, "cost -1");
            x.due(60, "cost 1");
        });
        edges.edge(16, ALL_FIT, x -> {
            line(x);
            x.make("shift 0 20", "stop 1 10 0 0", "stop 1 9 0 0", "stop 1 479 100 0", "stop 1 479 100 0", "stop 1 479 1 0");
            x.due(NO, "put 1 0 0", "put 2 0 0");
            x.due(20, "put 0 0 0");
            x.due(NO, "put 2 0 0", "put 2 0 1");
            x.due(20, "put 4 0 0");
            x.round(0, 4, 0);
        });
        edges.edge(16, "2 more than LOAD is aboard", x -> {
            x.make("van 51 479 0", "stop 0 479 50 0", "stop 10 479 2 0", "stop 0 479 1 0", "stop 30 479 1 0", "put 0 0 0");
            x.due(NO, "put 1 0 0");
            x.due(0, "put 2 0 0");
            x.due(NO, "put 3 0 0", "put 3 0 2");
            x.due(0, "put 1 0 2");
        });
        edges.edge(16, "1 there is a DROP without its FETCH ahead of it in this ROUND", x -> {
            mixed(x);
            x.due(NO, "put 0 0 0", "put 1 0 0", "put 0 1 0");
            x.due(20, "put 3 0 0");
        });
    }

    private static void putRefused() {
        edges.edge(16, "BEYOND (STOP, VAN, i), NO: it is in a ROUND, or that wouldn't FIT.", x -> {
            x.due(BEYOND, "put 0 0 0", "put -1 -1 -1");
            three(x);
            x.make("put 0 0 0", "stop 5 479 0 0");
            x.due(BEYOND, "put 4 0 0", "put -1 0 0", "put 1 2 0", "put 1 -1 0", "put 1 0 2", "put 1 0 -1", "put 1 1 1");
            x.due(BEYOND, "put LOW 0 0", "put HIGH 0 0", "put 1 LOW 0", "put 1 HIGH 0", "put 1 0 LOW", "put 1 0 HIGH");
            x.due(BEYOND, "put 0 0 2", "put 0 1 1", "put 0 2 0", "put 3 0 2", "put 3 0 -1", "put 3 -1 0");
            x.due(NO, "put 0 0 0", "put 0 0 1", "put 0 1 0", "put 3 0 0", "put 3 0 1", "put 3 1 0");
            x.due(40, "put 1 0 1");
        });
        edges.edge(16, CHANGES_NOTHING, x -> {
            three(x);
            x.make("put 0 0 0", "put 1 1 0", "stop 3 29 0 0", "put 2 0 1", "lay 0");
            x.due(NO, "put 0 1 0", "put 3 0 0", "put 3 1 1");
            x.due(BEYOND, "put 4 0 0", "put 3 0 3");
            x.due(1, "count 4");
            x.round(0, 0, 2);
            x.round(1, 1);
            x.row(10, 30);
            x.due(60, "undo");
            x.due(MISSING, "undo");
        });
    }

    private static void putIntoFull() {
        edges.edge(16, "(each in one ROUND at most, 12 in all)", x -> {
            x.make("van 9 479 0");
            for (int stop = 0; stop < 12; stop++) x.make("stop 0 479 0 0");
            for (int stop = 0; stop < 12; stop++) {
                x.due(0, "put " + stop + " 0 " + stop / 2);
                x.due(stop + 1, "round 0 -1");
            }
            x.round(0, 1, 3, 5, 7, 9, 11, 10, 8, 6, 4, 2, 0);
            x.due(BEYOND, "put 0 0 13", "put 12 0 12");
            x.due(NO, "put 0 0 12", "put 11 0 0");
            x.due(12, "count 4");
            x.make("take 5");
            x.due(0, "put 5 0 11");
            x.due(5, "round 0 11");
        });
    }

    private static void pair() {
        edges.edge(17, "A FETCH is PUT ahead of place i, then its DROP ahead of place j of the ROUND with it", x -> {
            mixed(x);
            x.make("put 2 0 0", "put 3 0 1");
            x.due(60, "pair 0 0 0 1");
            x.round(0, 0, 1, 2, 3);
            x.make("take 1");
            x.due(80, "pair 0 0 0 3");
            x.round(0, 0, 2, 3, 1);
            x.make("take 0");
            x.due(80, "pair 0 0 1 2");
            x.round(0, 2, 0, 1, 3);
            x.make("take 0");
            x.due(80, "pair 0 0 2 3");
            x.round(0, 2, 3, 0, 1);
        });
        edges.edge(17, "then its DROP ahead of place j", x -> {
            mixed(x);
            x.due(NO, "pair 0 0 0 0");
            x.due(BEYOND, "pair 0 0 0 2", "pair 0 0 1 1", "pair 0 0 0 -1", "pair 0 0 -1 0");
            x.due(60, "pair 0 0 0 1");
            x.due(1, "count 4");
            x.due(0, "undo");
        });
        edges.edge(17, "12 in all", x -> {
            x.make("van 9 479 0", "stop 10 479 0 0", "stop 20 479 0 0");
            for (int stop = 2; stop < 12; stop++) x.make("stop 0 479 0 0", "put " + stop + " 0 0");
            x.due(BEYOND, "pair 0 0 11 11", "pair 0 0 10 12", "pair 0 0 -1 11");
            x.due(NO, "pair 0 0 10 10");
            x.due(0, "pair 0 0 10 11");
            x.due(12, "round 0 -1");
            x.due(1, "round 0 11");
            x.due(0, "undo");
        });
    }

    private static void pairRefused() {
        edges.edge(17, "BEYOND (STOP, VAN), KIND: it is no FETCH; MISSING: it has no DROP; BEYOND (i, j); NO.", x -> {
            x.due(BEYOND, "pair 0 0 0 0", "pair -1 0 9 9");
            mixed(x);
            x.make("stop 33 479 0 0", "stop 43 479 0 0");
            x.due(BEYOND, "pair 6 0 0 1", "pair -1 0 0 1", "pair 0 2 0 1", "pair 0 -1 0 1", "pair 2 2 0 1", "pair 3 -1 0 1");
            x.due(BEYOND, "pair LOW 0 0 1", "pair HIGH 0 0 1", "pair 0 LOW 0 1", "pair 0 HIGH 0 1", "pair 2 2 9 9");
            x.due(KIND, "pair 1 0 0 1", "pair 2 0 0 1", "pair 4 0 0 1", "pair 5 0 0 1", "pair 1 0 9 9", "pair 2 0 -1 -1");
            x.due(MISSING, "pair 3 0 0 1", "pair 3 0 -1 0", "pair 3 0 0 9", "pair 3 1 LOW HIGH");
            x.due(BEYOND, "pair 0 0 1 1", "pair 0 0 -1 1", "pair 0 0 0 2", "pair 0 0 0 -1", "pair 0 0 LOW 0", "pair 0 0 0 HIGH");
            x.due(NO, "pair 0 0 0 0");
            x.due(60, "pair 0 0 0 1");
        });
        edges.edge(17, "MISSING: it has no DROP; BEYOND (i, j); NO.", x -> {
            mixed(x);
            x.make("put 3 1 0", "pair 0 0 0 1");
            x.due(MISSING, "pair 3 1 0 1", "pair 3 0 9 9");
            x.due(BEYOND, "pair 0 0 3 3", "pair 0 0 0 4", "pair 0 1 2 2", "pair 0 1 1 3");
            x.due(KIND, "pair 1 0 0 0");
            x.due(NO, "pair 0 0 0 1", "pair 0 1 0 1", "pair 0 0 2 3", "pair 0 1 1 2");
        });
        edges.edge(17, ALL_FIT, x -> {
            mixed(x);
            x.make("shift 0 59");
            x.due(NO, "pair 0 0 0 1");
            x.make("shift 0 60");
            x.due(60, "pair 0 0 0 1");
            x.make("take 0", "van 20 479 0", "stop 0 479 1 0", "put 4 2 0");
            x.due(NO, "pair 0 2 0 1", "pair 0 2 0 2");
            x.due(60, "pair 0 2 1 2");
        });
        edges.edge(17, CHANGES_NOTHING, x -> {
            mixed(x);
            x.make("put 2 0 0", "put 3 0 0");
            x.due(NO, "pair 0 0 0 0", "pair 0 0 2 1", "pair 0 1 0 0");
            x.due(BEYOND, "pair 0 0 3 3", "pair 0 0 2 4");
            x.due(KIND, "pair 2 0 0 1");
            x.due(MISSING, "pair 3 0 0 1");
            x.round(0, 3, 2);
            x.due(2, "count 4");
            x.due(NONE, "look 0 5", "look 1 5");
        });
    }

    private static void take() {
        edges.edge(18, "one is TAKEN out (a FETCH with its DROP, a DROP with its FETCH: both go)", x -> {
            mixed(x);
            x.make("put 2 0 0", "pair 0 0 0 2", "put 3 0 3");
            x.due(60, "cost -1");
            x.due(40, "take 0");
            x.round(0, 2, 3);
            x.make("pair 0 0 0 1");
            x.round(0, 0, 1, 2, 3);
            x.due(40, "take 1");
            x.round(0, 2, 3);
            x.due(40, "take 3");
            x.due(0, "take 2");
            x.round(0);
            x.due(NO, "take 0", "take 1", "take 2", "take 3");
        });
        edges.edge(18, "A STOP is TAKEN out: COST of THE PLAN.", x -> {
            three(x);
            x.make("put 0 0 0", "put 1 0 1", "put 2 1 0");
            x.due(80, "take 1");
            x.due(20, "take 2");
            x.due(0, "take 0");
            x.due(6, "count 4");
            x.due(20, "undo");
        });
        edges.edge(18, "12 in all", x -> {
            x.make("van 9 479 0");
            for (int stop = 0; stop < 12; stop++) x.make("stop 0 479 0 0", "put " + stop + " 0 " + stop);
            x.due(0, "take 11", "take 0", "take 5");
            x.round(0, 1, 2, 3, 4, 6, 7, 8, 9, 10);
        });
    }

    private static void takeRefused() {
        edges.edge(18, "BEYOND, NO: it is in no ROUND", x -> {
            x.due(BEYOND, "take 0", "take -1");
            three(x);
            x.make("put 0 0 0");
            x.due(BEYOND, "take 3", "take -1", "take 12", "take LOW", "take HIGH");
            x.due(NO, "take 1", "take 2");
            x.due(0, "take 0");
            x.due(NO, "take 0");
        });
        // no call shows this refusal: to leave out a stop delays none, and what is aboard goes with its pair
        edges.edge(18, "or a ROUND wouldn't FIT", x -> {
            line(x);
            x.make("slow 0 1 0 99", "slow 0 1 1 10", "stop 1 479 0 0", "stop 0 60479 0 0", "put 0 0 0");
            x.due(70, "when 0 0 0");
            x.make("put 1 0 0");
            x.due(80, "take 1");
            x.due(0, "take 0");
        });
        edges.edge(18, CHANGES_NOTHING, x -> {
            three(x);
            x.make("put 0 0 0", "put 1 0 1");
            x.due(NO, "take 2");
            x.due(BEYOND, "take 3");
            x.round(0, 0, 1);
            x.due(2, "count 4");
        });
    }

    private static void move() {
        edges.edge(19, "A STOP MOVES to place i of a ROUND (as that is without it): COST of THE PLAN.", x -> {
            three(x);
            x.make("put 0 0 0", "put 1 0 1", "put 2 0 2");
            x.due(60, "move 0 0 2");
            x.round(0, 1, 2, 0);
            x.due(BEYOND, "move 0 0 3", "move 0 0 -1", "move 1 0 3");
            x.due(60, "move 0 0 0");
            x.round(0, 0, 1, 2);
            x.due(80, "move 1 0 0");
            x.round(0, 1, 0, 2);
            x.due(BEYOND, "move 0 1 1", "move 0 1 -1");
            x.due(80, "move 0 1 0");
            x.round(0, 1, 2);
            x.round(1, 0);
            x.due(BEYOND, "move 2 1 2", "move 0 1 1", "move 0 0 3");
            x.due(100, "move 2 1 1");
            x.round(1, 0, 2);
            x.due(60, "move 1 1 2");
            x.round(0);
            x.round(1, 0, 2, 1);
            x.due(80, "move 0 0 0");
        });
        edges.edge(19, "each call by which THE PLAN became another one can be taken back", x -> {
            three(x);
            x.make("put 0 0 0", "put 1 0 1");
            x.due(40, "move 0 0 0", "move 1 0 1");
            x.due(2, "count 4");
            x.due(40, "move 0 0 1");
            x.due(3, "count 4");
            x.due(40, "undo");
            x.round(0, 0, 1);
        });
        edges.edge(19, "(it is taken out alone, then PUT)", x -> {
            x.make("van 9 479 0");
            for (int stop = 0; stop < 12; stop++) x.make("stop 0 479 0 0", "put " + stop + " 0 " + stop);
            x.due(0, "move 0 0 11", "move 11 0 0");
            x.round(0, 11, 1, 2, 3, 4, 5, 6, 7, 8, 9, 10, 0);
            x.due(BEYOND, "move 0 0 12");
        });
    }

    private static void moveRefused() {
        edges.edge(19, "BEYOND (STOP, VAN), NO: it is in no ROUND; BEYOND (i), NO.", x -> {
            x.due(BEYOND, "move 0 0 0", "move -1 0 9");
            three(x);
            x.make("put 0 0 0", "put 1 0 1", "span 1 20");
            x.due(BEYOND, "move 3 0 0", "move -1 0 0", "move 0 2 0", "move 0 -1 0", "move 2 2 0", "move 2 -1 9", "move 3 0 9");
            x.due(BEYOND, "move LOW 0 0", "move HIGH 0 0", "move 0 LOW 0", "move 0 HIGH 0");
            x.due(NO, "move 2 0 0", "move 2 0 9", "move 2 1 -1", "move 2 0 LOW");
            x.due(BEYOND, "move 0 0 2", "move 0 0 -1", "move 0 1 1", "move 1 0 2", "move 0 0 LOW", "move 0 0 HIGH");
            x.make("stop 1 479 600 0");
            x.due(NO, "move 3 0 0");
            x.make("put 3 0 2");
            x.due(BEYOND, "move 3 0 3");
            x.due(NO, "move 3 0 0", "move 3 0 1");
            x.due(40, "move 3 0 2");
        });
        edges.edge(19, ALL_FIT, x -> {
            three(x);
            x.make("put 0 0 0", "put 1 1 0", "shift 1 40");
            x.due(40, "move 0 1 0");
            x.make("put 2 0 0", "shift 0 60");
            x.due(NO, "move 2 1 0", "move 2 1 2");
            x.due(100, "move 0 0 0");
        });
        edges.edge(19, CHANGES_NOTHING, x -> {
            three(x);
            x.make("put 0 0 0", "put 1 1 0", "shift 1 40", "put 2 0 1", "move 2 0 0");
            x.due(NO, "move 2 1 0", "move 2 1 1");
            x.due(BEYOND, "move 2 1 2", "move 2 2 0", "move 3 0 0");
            x.round(0, 2, 0);
            x.round(1, 1);
            x.due(2, "count 4");
        });
    }

    private static void movePair() {
        edges.edge(19, "one MOVES (it is taken out alone, then PUT)", x -> {
            mixed(x);
            x.make("put 2 0 0", "pair 0 0 1 2");
            x.round(0, 2, 0, 1);
            x.due(NO, "move 0 1 0", "move 1 1 0", "move 1 0 0", "move 1 0 1", "move 0 0 2");
            x.due(60, "move 0 0 0");
            x.round(0, 0, 2, 1);
            x.due(NO, "move 1 0 0");
            x.due(60, "move 1 0 1");
            x.round(0, 0, 1, 2);
            x.due(100, "move 2 1 0");
        });
    }

    private static void cross() {
        edges.edge(20, "ENDS are CROSSED (i, j 0 .. how many there are): COST of THE PLAN.", x -> {
            three(x);
            x.make("stop 1 479 0 0", "put 0 0 0", "put 1 0 1", "put 2 1 0", "put 3 1 1");
            x.due(BEYOND, "cross 0 3 1 0", "cross 0 0 1 3", "cross 0 -1 1 0", "cross 0 0 1 -1");
            x.due(100, "cross 0 0 1 0");
            x.round(0, 2, 3);
            x.round(1, 0, 1);
            x.due(80, "cross 0 2 1 0");
            x.round(0, 2, 3, 0, 1);
            x.round(1);
            x.due(BEYOND, "cross 0 5 1 0", "cross 0 0 1 1");
            x.due(80, "cross 0 4 1 0");
            x.due(100, "cross 1 0 0 2");
            x.round(0, 2, 3);
            x.round(1, 0, 1);
            x.due(80, "cross 0 1 1 1");
            x.round(0, 2, 1);
            x.round(1, 0, 3);
        });
        edges.edge(20, "what stands from place i on in one ROUND, and from j on in another one, change", x -> {
            line(x);
            x.due(0, "cross 0 0 1 0", "cross 1 0 0 0", "count 4");
            x.make("stop 1 479 0 0", "put 0 0 0");
            x.due(20, "cross 0 1 1 0");
            x.due(1, "count 4");
            x.due(20, "cross 0 0 1 0");
            x.round(0);
            x.round(1, 0);
            x.due(2, "count 4");
        });
    }

    private static void crossOfOnes() {
        edges.edge(20, "each call by which THE PLAN became another one can be taken back", x -> {
            three(x);
            x.make("put 0 0 0", "put 1 1 0");
            x.due(60, "cross 0 0 1 0");
            x.round(0, 1);
            x.round(1, 0);
            x.due(3, "count 4");
            x.due(60, "undo");
            x.round(0, 0);
            x.round(1, 1);
        });
        edges.edge(21, "each call by which THE PLAN became another one can be taken back", x -> {
            three(x);
            x.make("put 0 0 0", "put 1 0 1");
            x.due(40, "turn 0 0 1");
            x.due(3, "count 4");
            x.due(40, "undo");
            x.round(0, 0, 1);
        });
    }

    private static void crossRefused() {
        edges.edge(20, "BEYOND (VANS, i, j), NO: one VAN and itself, it wouldn't FIT.", x -> {
            x.due(BEYOND, "cross 0 0 1 0", "cross 0 0 0 0");
            mixed(x);
            x.make("pair 0 0 0 1", "put 2 1 0");
            x.due(BEYOND, "cross 2 0 1 0", "cross 0 0 2 0", "cross -1 0 1 0", "cross 0 0 -1 0", "cross 2 0 2 0", "cross -1 0 -1 0");
            x.due(BEYOND, "cross 0 3 1 0", "cross 0 0 1 2", "cross 0 -1 1 0", "cross 0 0 1 -1", "cross LOW 0 1 0", "cross 0 0 HIGH 0");
            x.due(BEYOND, "cross 0 LOW 1 0", "cross 0 HIGH 1 0", "cross 0 0 1 LOW", "cross 0 0 1 HIGH");
            x.due(BEYOND, "cross 0 3 0 0", "cross 0 0 0 3", "cross 1 0 1 2", "cross 1 -1 1 0");
            x.due(NO, "cross 0 0 0 0", "cross 0 1 0 2", "cross 0 2 0 0", "cross 1 1 1 1");
            x.due(NO, "cross 0 1 1 0", "cross 0 1 1 1", "cross 1 0 0 1");
            x.due(100, "cross 0 2 1 1");
            x.due(100, "cross 0 0 1 0");
            x.due(60, "cross 0 0 1 2");
        });
        edges.edge(20, ALL_FIT, x -> {
            three(x);
            x.make("put 0 0 0", "put 2 1 0", "shift 0 59");
            x.due(NO, "cross 0 0 1 0", "cross 1 0 0 1", "cross 1 0 0 0");
            x.make("shift 0 60");
            x.due(80, "cross 0 0 1 0");
            x.due(60, "cross 0 0 1 1");
        });
        edges.edge(20, CHANGES_NOTHING, x -> {
            three(x);
            x.make("shift 0 20", "put 0 0 0", "put 2 1 0");
            x.due(NO, "cross 0 0 1 0", "cross 0 0 0 0");
            x.due(BEYOND, "cross 0 2 1 0", "cross 0 0 2 0");
            x.round(0, 0);
            x.round(1, 2);
            x.due(2, "count 4");
        });
    }

    private static void crossFull() {
        edges.edge(20, "12 in all", x -> {
            x.make("van 9 479 0", "van 9 479 0");
            for (int stop = 0; stop < 12; stop++) x.make("stop 0 479 0 0", "put " + stop + " " + stop % 2 + " " + stop / 2);
            x.due(0, "cross 0 6 1 0");
            x.round(0, 0, 2, 4, 6, 8, 10, 1, 3, 5, 7, 9, 11);
            x.round(1);
            x.due(0, "cross 0 0 1 0");
            x.round(0);
            x.round(1, 0, 2, 4, 6, 8, 10, 1, 3, 5, 7, 9, 11);
            x.due(0, "cross 0 0 1 11");
            x.round(0, 11);
            x.due(0, "cross 0 1 1 11");
            x.due(BEYOND, "cross 0 1 1 12", "cross 0 2 1 0");
        });
    }

    private static void turn() {
        edges.edge(21, "STOPS i to j are TURNED: COST of THE PLAN.", x -> {
            three(x);
            x.make("stop 0 479 0 0", "put 0 0 0", "put 1 0 1", "put 2 0 2", "put 3 0 3");
            x.due(60, "turn 0 0 3");
            x.round(0, 3, 2, 1, 0);
            x.due(100, "turn 0 0 1");
            x.round(0, 2, 3, 1, 0);
            x.due(100, "turn 0 2 3");
            x.round(0, 2, 3, 0, 1);
            x.due(60, "turn 0 1 3");
            x.round(0, 2, 1, 0, 3);
            x.due(8, "count 4");
        });
        edges.edge(21, "BEYOND (VAN, places), NO: i is not below j", x -> {
            three(x);
            x.due(BEYOND, "turn 0 0 0", "turn 0 0 1");
            x.make("put 0 0 0");
            x.due(BEYOND, "turn 0 0 1", "turn 0 1 0", "turn 0 1 1");
            x.due(NO, "turn 0 0 0");
            x.make("put 1 0 1");
            x.due(40, "turn 0 0 1");
            x.round(0, 1, 0);
            x.due(NO, "turn 0 0 0", "turn 0 1 1", "turn 0 1 0");
            x.due(BEYOND, "turn 0 0 2", "turn 0 1 2", "turn 0 2 2", "turn 0 -1 1", "turn 0 -1 -1");
        });
        edges.edge(21, "12 in all", x -> {
            x.make("van 9 479 0");
            for (int stop = 0; stop < 12; stop++) x.make("stop 0 479 0 0", "put " + stop + " 0 " + stop);
            x.due(0, "turn 0 0 11");
            x.round(0, 11, 10, 9, 8, 7, 6, 5, 4, 3, 2, 1, 0);
            x.due(BEYOND, "turn 0 0 12", "turn 0 11 12");
            x.due(0, "turn 0 10 11");
            x.due(0, "round 0 10");
        });
    }

    private static void turnRefused() {
        edges.edge(21, "BEYOND (VAN, places), NO: i is not below j, it wouldn't FIT.", x -> {
            x.due(BEYOND, "turn 0 0 1", "turn -1 1 0");
            mixed(x);
            x.make("pair 0 0 0 1", "put 2 0 2");
            x.due(BEYOND, "turn 2 0 1", "turn -1 0 1", "turn 1 0 1", "turn 0 0 3", "turn 0 3 0", "turn 0 -1 1", "turn 0 1 -1");
            x.due(BEYOND, "turn LOW 0 1", "turn HIGH 0 1", "turn 0 LOW 1", "turn 0 0 HIGH", "turn 0 HIGH LOW", "turn 0 3 3");
            x.due(BEYOND, "turn 2 1 0", "turn 0 2 3", "turn 0 3 1");
            x.due(NO, "turn 0 2 0", "turn 0 1 1", "turn 0 2 2", "turn 0 0 1", "turn 0 0 2");
            x.due(60, "turn 0 1 2");
            x.round(0, 0, 2, 1);
        });
        edges.edge(21, ALL_FIT, x -> {
            three(x);
            x.make("span 0 29", "put 0 0 0", "put 1 0 1");
            x.due(NO, "turn 0 0 1");
            x.make("span 0 30");
            x.due(40, "turn 0 0 1");
        });
        edges.edge(21, CHANGES_NOTHING, x -> {
            three(x);
            x.make("span 0 29", "put 0 0 0", "put 1 0 1");
            x.due(NO, "turn 0 0 1", "turn 0 1 0");
            x.due(BEYOND, "turn 0 0 2", "turn 1 0 1");
            x.round(0, 0, 1);
            x.due(2, "count 4");
        });
    }
}
