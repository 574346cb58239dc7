import java.io.IOException;

/** The edges of promises 22 to 27: plans built, made better, the best of all, taken back, cleared and counted. */
public final class PlanEdgesTest {
    private static final int NONE = Edges.NONE, MISSING = Edges.MISSING, BEYOND = Edges.BEYOND, BELOW = Edges.BELOW;
    private static final int KIND = Edges.KIND, NO = Edges.NO, FULL = Edges.FULL;
    private static final String CHANGES_NOTHING = "A refused call changes nothing but status().";
    private static final String TAKEN_BACK = "each call by which THE PLAN became another one can be taken back";

    private static Edges edges;

    public static void main(String[] args) throws IOException {
        edges = new Edges("PlanEdgesTest");
        buildNothing();
        buildOrder();
        buildFits();
        buildPairs();
        buildFull();
        better();
        betterOrder();
        betterRefused();
        leastLimits();
        leastOrder();
        leastRows();
        leastChanges();
        undo();
        undoTwenty();
        undoEach();
        undoTold();
        clear();
        count();
        countPlan();
        countMinutes();
        edges.end(22, 27);
    }

    /** Yard, then places 1, 2, 3 on a line, 10 minutes apart; two vans all day, LOAD 100, for nothing. */
    private static void line(Run x) {
        x.make("street 0 1 10", "street 1 2 10", "street 2 3 10", "van 100 479 0", "van 100 479 0");
    }

    /** The line with BRING stops 0, 1, 2 at places 1, 2, 3. */
    private static void three(Run x) {
        line(x);
        x.make("stop 1 479 0 0", "stop 2 479 0 0", "stop 3 479 0 0");
    }

    private static void buildNothing() {
        edges.edge(22, "BUILD: how many STOPS were PUT (DROPS, too).", x -> {
            x.due(0, "build", "count 4");
            x.make("stop 0 479 0 0");
            x.due(0, "build", "count 4");
            x.make("van 9 479 0");
            x.due(1, "build", "count 4");
            x.due(0, "build");
            x.due(1, "count 4");
            x.make("stop 10 479 0 0", "stop 20 479 0 1");
            x.due(2, "build");
            x.due(0, "build", "count 2");
        });
        edges.edge(22, "of all STOPS that are in no ROUND", x -> {
            x.make("van 9 479 0");
            x.due(0, "build");
            three(x);
            x.make("put 2 2 0");
            x.due(2, "build");
            x.round(2, 0, 1, 2);
            x.due(2, "count 4");
            x.due(60, "cost -1", "undo");
            x.round(2, 2);
        });
        edges.edge(22, "where it can be PUT, so that all ROUNDS FIT", x -> {
            line(x);
            x.make("stop 5 479 0 0", "stop 1 9 0 0", "stop 10 479 0 0", "stop 20 100100 0 2");
            x.make("shift 0 99", "shift 1 99");
            x.due(0, "build", "count 4");
            x.make("shift 1 100");
            x.due(2, "build");
            x.round(0);
            x.round(1, 2, 3);
        });
    }

    private static void buildOrder() {
        edges.edge(22, "that by which COST grows least", x -> {
            x.make("street 0 1 10", "street 0 2 9", "van 9 20 0", "stop 1 479 0 0", "stop 2 479 0 0");
            x.due(1, "build");
            x.round(0, 1);
            x.due(18, "cost -1");
        });
        edges.edge(22, "of these the least STOP", x -> {
            x.make("street 0 1 10", "street 0 2 10", "van 9 20 0", "stop 1 479 0 0", "stop 2 479 0 0");
            x.due(1, "build");
            x.round(0, 0);
        });
        edges.edge(22, "of these the least STOP, VAN, place", x -> {
            three(x);
            x.due(3, "build");
            x.round(0, 2, 1, 0);
            x.round(1);
        });
        edges.edge(22, "of these the least STOP, VAN", x -> {
            x.make("street 0 1 10", "van 9 479 5", "van 9 479 5", "van 9 479 4", "stop 1 479 0 0", "stop 1 479 0 0");
            x.due(2, "build");
            x.round(0);
            x.round(1);
            x.round(2, 1, 0);
            x.make("clear", "stop 1 10 0 0", "stop 1 10 100 0", "stop 1 10 100 0", "span 0 10", "span 1 10");
            x.due(5, "build");
            x.round(2, 2, 1, 0, 3);
            x.round(0, 4);
            x.round(1);
        });
        edges.edge(22, "that by which COST grows least; of these the least STOP, VAN", x -> {
            x.make("street 0 1 10", "van 9 479 5", "van 9 479 5", "stop 1 10 100 0", "stop 1 10 100 0", "stop 1 10 100 0");
            x.due(2, "build");
            x.round(0, 0);
            x.round(1, 1);
            x.due(50, "cost -1");
            x.due(1, "count 2");
        });
    }

    private static void buildFits() {
        edges.edge(22, "again and again", x -> {
            x.make("street 0 1 10", "van 50 479 0", "stop 1 479 30 0", "stop 1 479 30 0", "stop 1 479 20 0", "stop 1 479 1 0");
            x.due(2, "build");
            x.round(0, 2, 0);
            x.due(2, "count 2", "why 1 0 0", "why 3 0 2");
        });
        edges.edge(22, "COST grows least", x -> {
            x.make("van 9 479 0", "stop 0 60100 0 0", "stop 0 479 5900 0", "stop 0 479 100 0", "put 0 0 0");
            x.due(60, "cost -1");
            x.due(2, "build");
            x.round(0, 2, 1, 0);
            x.due(0, "cost -1");
        });
        edges.edge(22, "(Of an empty ROUND nothing is done.)", x -> {
            x.make("street 0 1 10", "van 9 479 15", "van 9 100479 0", "stop 1 479 0 0", "stop 1 479 0 0", "put 0 0 0");
            x.due(1, "build");
            x.round(0, 1, 0);
            x.make("clear", "shift 0 9");
            x.due(2, "build");
            x.round(1, 1, 0);
        });
    }

    private static void buildPairs() {
        edges.edge(22, "(of a FETCH with a DROP: with that one; DROPS aside)", x -> {
            line(x);
            x.make("stop 13 479 5 0", "stop 21 479 0 0", "stop 12 479 5 0");
            x.due(3, "build");
            x.round(0, 0, 2, 1);
            x.due(60, "cost -1");
        });
        edges.edge(22, "(of FETCH and DROP: place of the FETCH, then of the DROP, told in the ROUND with the FETCH in it)", x -> {
            x.make("van 9 479 0", "stop 0 479 0 0", "stop 0 479 0 0", "put 0 0 0", "put 1 0 1");
            x.make("stop 10 479 0 0", "stop 20 479 0 2");
            x.due(2, "build");
            x.round(0, 2, 3, 0, 1);
        });
        edges.edge(22, "place of the FETCH, then of the DROP", x -> {
            x.make("van 9 479 0", "stop 0 0 0 0", "put 0 0 0", "stop 10 479 0 0", "stop 20 5479 0 1");
            x.due(2, "build");
            x.round(0, 1, 0, 2);
            x.due(5, "cost -1");
        });
        edges.edge(22, "place of the FETCH, then of the DROP, told in the ROUND with the FETCH in it", x -> {
            line(x);
            x.make("stop 2 479 0 0", "stop 3 479 0 0", "put 0 0 0", "put 1 0 1", "stop 12 479 0 0", "stop 23 479 0 2");
            x.due(2, "build");
            x.round(0, 2, 0, 3, 1);
            x.due(60, "cost -1");
        });
        edges.edge(22, "DROPS aside", x -> {
            line(x);
            x.make("shift 0 20", "shift 1 20", "stop 11 479 0 0", "stop 22 479 0 0", "stop 1 479 0 0");
            x.due(1, "build");
            x.round(0, 2);
            x.due(NONE, "look 0 5", "look 1 5");
        });
    }

    private static void buildFull() {
        edges.edge(22, "12 in all", x -> {
            x.make("van 9 479 0", "van 9 479 0", "stop 10 479 0 0", "stop 20 479 0 0");
            for (int stop = 2; stop < 12; stop++) x.make("stop 0 479 0 0");
            x.due(12, "build");
            x.round(0, 11, 10, 9, 8, 7, 6, 5, 4, 3, 2, 0, 1);
            x.due(0, "build", "better 100", "cost -1", "undo", "count 4");
        });
        edges.edge(22, "12 in all", x -> {
            x.make("van 9 479 0");
            for (int stop = 0; stop < 12; stop++) x.make("stop 0 479 0 0");
            x.due(12, "build");
            x.round(0, 11, 10, 9, 8, 7, 6, 5, 4, 3, 2, 1, 0);
        });
        edges.edge(22, TAKEN_BACK, x -> {
            three(x);
            x.make("put 1 0 0");
            x.due(2, "build");
            x.due(2, "count 4");
            x.due(40, "undo");
            x.round(0, 1);
        });
    }

    private static void better() {
        edges.edge(23, "BETTER, n times at most (0 .. 100): how many were done.", x -> {
            three(x);
            x.make("put 0 0 0", "put 1 1 0", "put 2 1 0");
            x.due(80, "cost -1");
            x.due(0, "better 0");
            x.due(BELOW, "better -1", "better LOW");
            x.due(NO, "better 101", "better HIGH");
            x.due(1, "better 100");
            x.due(60, "cost -1");
            x.due(0, "better 100", "better 1");
            x.due(4, "count 4");
        });
        edges.edge(23, "n times at most", x -> {
            three(x);
            x.make("van 9 479 0", "put 0 0 0", "put 1 1 0", "put 2 2 0");
            x.due(120, "cost -1");
            x.due(1, "better 1");
            x.due(100, "cost -1");
            x.round(1, 0, 1);
            x.due(2, "better 2");
            x.round(2, 0, 1, 2);
            x.due(60, "cost -1");
            x.due(5, "count 4");
        });
        edges.edge(23, "how many were done", x -> {
            x.due(0, "better 0", "better 1", "better 100");
            line(x);
            x.due(0, "better 100");
            x.make("stop 1 479 0 0");
            x.due(0, "better 100", "count 4");
        });
    }

    private static void betterOrder() {
        edges.edge(23, "the first MOVE by which COST becomes less", x -> {
            three(x);
            x.make("put 2 0 0", "put 1 0 1", "put 0 0 2");
            x.due(0, "better 100");
            x.round(0, 2, 1, 0);
            x.make("move 0 1 0");
            x.due(80, "cost -1");
            x.due(1, "better 1");
            x.round(0, 0, 2, 1);
        });
        edges.edge(23, "STOPS by numbers (of those in ROUNDS)", x -> {
            x.make("street 0 1 10", "street 0 2 5", "van 9 479 0", "van 9 479 30", "stop 2 479 0 0", "stop 1 479 0 0");
            x.make("stop 1 479 0 0", "put 0 1 0", "put 1 1 1");
            x.due(60, "cost -1");
            x.due(0, "better 1");
            x.make("put 2 0 0");
            x.due(80, "cost -1");
            x.due(1, "better 1");
            x.round(0, 1, 2);
            x.round(1, 0);
            x.due(60, "cost -1");
            x.due(1, "better 1");
            x.round(0, 0, 1, 2);
            x.due(30, "cost -1");
        });
        edges.edge(23, "VANS by numbers, places from 0 on", x -> {
            x.make("street 0 1 10", "van 9 479 20", "van 9 479 0", "van 9 479 0", "stop 1 479 0 0", "stop 1 479 0 0");
            x.make("put 0 0 0", "put 1 2 0");
            x.due(1, "better 1");
            x.round(1, 0);
            x.round(2, 1);
            x.due(1, "better 1");
            x.round(2, 0, 1);
        });
        edges.edge(23, "places from 0 on", x -> {
            x.make("street 0 1 10", "van 9 479 0", "van 9 479 500", "stop 0 50479 0 0", "stop 31 10 0 0", "put 1 0 0");
            x.due(570, "put 0 1 0");
            x.due(1, "better 1");
            x.round(0, 0, 1);
            x.due(120, "cost -1");
            x.due(1, "better 1");
            x.round(0, 1, 0);
            x.due(50, "cost -1");
            x.due(0, "better 1");
        });
    }

    private static void betterRefused() {
        edges.edge(23, "BELOW, NO.", x -> {
            x.due(BELOW, "better -1", "better -101", "better LOW");
            x.due(NO, "better 101", "better 1000", "better HIGH");
            x.due(0, "better 100", "better 0");
        });
        edges.edge(23, "In THE PLAN all ROUNDS FIT", x -> {
            line(x);
            x.make("stop 11 479 0 0", "stop 23 479 0 0", "stop 3 479 0 0", "pair 0 0 0 1", "put 2 1 0", "shift 0 60");
            x.due(1, "better 100");
            x.round(0, 0, 2, 1);
        });
        edges.edge(23, "(it is taken out alone, then PUT)", x -> {
            line(x);
            x.make("stop 13 479 0 0", "stop 21 479 0 0", "stop 2 479 0 0", "pair 0 0 0 1", "put 2 0 2");
            x.due(80, "cost -1");
            x.due(1, "better 1");
            x.round(0, 0, 2, 1);
            x.make("clear", "stop 11 479 0 0", "stop 23 479 0 3", "put 2 0 0", "pair 3 0 1 2");
            x.due(80, "cost -1");
            x.due(1, "better 1");
            x.round(0, 3, 2, 4);
            x.due(60, "cost -1");
            x.due(0, "better 1");
        });
        edges.edge(23, CHANGES_NOTHING, x -> {
            three(x);
            x.make("put 0 0 0", "put 1 1 0", "span 2 29");
            x.due(NO, "put 2 0 0");
            x.due(0, "better 0");
            x.round(0, 0);
            x.due(3, "why 2 0 1");
            x.due(1, "better 1");
            x.round(1, 0, 1);
            x.due(60, "undo");
            x.due(0, "better 0", "count 4");
            x.round(0, 0);
            x.round(1, 1);
        });
        edges.edge(23, CHANGES_NOTHING, x -> {
            three(x);
            x.make("put 0 0 0", "put 1 1 0");
            x.due(BELOW, "better -1");
            x.due(NO, "better 101");
            x.round(0, 0);
            x.round(1, 1);
            x.due(2, "count 4");
        });
        edges.edge(23, TAKEN_BACK, x -> {
            three(x);
            x.make("van 9 479 0", "put 0 0 0", "put 1 1 0", "put 2 2 0");
            x.due(3, "better 100");
            x.due(4, "count 4");
            x.due(120, "undo");
            x.round(0, 0);
            x.round(1, 1);
        });
    }

    private static void leastLimits() {
        edges.edge(24, "LEAST: for at most 5 STOPS, and 2 VANS", x -> {
            x.due(0, "least");
            x.make("van 9 479 0");
            x.due(0, "least");
            for (int stop = 0; stop < 5; stop++) {
                x.make("stop 0 479 0 0");
                x.due(stop + 1, "least");
            }
            x.round(0, 0, 1, 2, 3, 4);
            x.make("van 9 479 0");
            x.due(5, "least");
            x.make("stop 0 479 0 0");
            x.due(FULL, "least", "least");
            x.round(0, 0, 1, 2, 3, 4);
        });
        edges.edge(24, "FULL: there are more STOPS, or VANS.", x -> {
            x.make("van 9 479 0", "van 9 479 0", "stop 0 479 0 0");
            x.due(1, "least");
            x.make("van 9 479 0");
            x.due(FULL, "least");
            for (int stop = 1; stop < 12; stop++) x.make("stop 0 479 0 0");
            x.due(FULL, "least");
            x.due(2, "status -8");
        });
        edges.edge(24, "FULL: there are more STOPS", x -> {
            for (int stop = 0; stop < 5; stop++) x.make("stop 0 479 0 0");
            x.due(0, "least");
            x.make("stop 0 479 0 0");
            x.due(FULL, "least");
        });
        edges.edge(24, "or VANS", x -> {
            x.make("van 9 479 0", "van 9 479 0");
            x.due(0, "least");
            x.make("van 9 479 0");
            x.due(FULL, "least");
        });
        edges.edge(24, CHANGES_NOTHING, x -> {
            three(x);
            x.make("put 0 0 0", "put 2 1 0", "van 9 479 0", "put 1 0 0");
            x.due(FULL, "least");
            x.round(0, 1, 0);
            x.round(1, 2);
            x.due(1, "count 4");
        });
    }

    private static void leastOrder() {
        edges.edge(24, "those with the most MUST STOPS", x -> {
            x.make("street 0 1 10", "van 50 479 500", "stop 0 479 20 0", "stop 0 479 20 0", "stop 41 479 31 0");
            x.due(1, "least");
            x.round(0, 2);
            x.due(520, "cost -1");
            x.make("stop 40 479 20 0", "stop 40 479 30 0");
            x.due(2, "least");
            x.round(0, 3, 4);
            x.due(500, "cost -1");
        });
        edges.edge(24, "of these with the most STOPS", x -> {
            x.make("street 0 1 99", "van 50 479 500", "stop 40 479 10 0", "stop 0 479 40 0", "stop 1 479 20 0", "stop 31 0 20 0");
            x.due(3, "least");
            x.round(0, 0, 2, 3);
            x.due(500 + 198 + 99, "cost -1");
        });
        edges.edge(24, "of these of the least COST", x -> {
            x.make("street 0 1 10", "street 0 2 9", "van 50 20 0", "stop 1 479 0 0", "stop 2 479 0 0");
            x.due(1, "least");
            x.round(0, 1);
            x.make("shift 0 38");
            x.due(2, "least");
            x.round(0, 0, 1);
            x.due(38, "cost -1");
        });
        edges.edge(24, "of these of the least COST; of these the least as a row of numbers", x -> {
            x.make("van 9 479 5", "van 9 479 4", "stop 0 479 0 0");
            x.due(1, "least");
            x.round(1, 0);
            x.due(4, "cost -1");
        });
        edges.edge(24, "of these the least as a row of numbers", x -> {
            x.make("van 9 479 4", "van 9 479 4", "stop 0 479 0 0", "put 0 1 0");
            x.due(1, "least");
            x.round(0, 0);
        });
    }

    private static void leastRows() {
        edges.edge(24, "of these the least as a row of numbers", x -> {
            x.make("street 0 1 10", "van 50 20 0", "stop 1 479 0 0", "stop 1 479 0 0", "stop 1 479 100 0");
            x.due(2, "least");
            x.round(0, 0, 1);
        });
        edges.edge(24, "STOPS of VAN 0, then 99, STOPS of VAN 1, then 99", x -> {
            x.make("van 9 479 0", "van 9 479 0", "stop 0 479 0 0", "stop 0 479 0 0", "stop 0 479 0 0");
            x.due(3, "least");
            x.round(0, 0, 1, 2);
            x.make("stop 0 0 100 0", "stop 0 0 100 0");
            x.due(5, "least");
            x.round(0, 0, 1, 2, 3);
            x.round(1, 4);
        });
        edges.edge(24, "the first number that differs is less", x -> {
            x.make("van 50 479 0", "van 50 479 0", "stop 0 479 30 0", "stop 0 479 30 0", "stop 0 479 20 0");
            x.due(3, "least");
            x.round(0, 0, 2);
            x.round(1, 1);
            x.make("shift 0 9", "shift 1 9", "stop 0 5 0 0", "stop 0 5005 0 0");
            x.due(5, "least");
            x.round(0, 0, 2, 3, 4);
            x.round(1, 1);
        });
        edges.edge(24, "(of fewer VANS those that there are", x -> {
            x.make("stop 0 479 0 0", "stop 0 479 0 0");
            x.due(0, "least", "count 4");
            x.make("van 9 479 0");
            x.due(2, "least");
            x.round(0, 0, 1);
        });
        edges.edge(24, "of all plans in which all ROUNDS FIT", x -> {
            line(x);
            x.make("stop 13 479 0 0", "stop 21 479 0 0", "stop 12 479 50 0", "stop 22 479 0 2", "stop 5 479 0 0");
            x.due(4, "least");
            x.due(60, "cost -1");
            x.round(0, 0, 2, 3, 1);
            x.due(1, "count 2");
        });
    }

    private static void leastChanges() {
        edges.edge(24, "THE PLAN becomes it: how many STOPS are in it.", x -> {
            three(x);
            x.make("put 2 1 0", "put 0 1 1", "put 1 0 0");
            x.due(3, "least");
            x.round(0, 0, 1, 2);
            x.round(1);
            x.due(4, "count 4");
            x.due(3, "least");
            x.due(4, "count 4");
            x.due(100, "undo");
            x.round(1, 2, 0);
        });
        edges.edge(24, "how many STOPS are in it", x -> {
            x.make("van 9 479 0", "stop 5 479 0 0");
            x.due(0, "least", "count 4");
            x.make("stop 10 479 0 0", "stop 20 479 0 1");
            x.due(2, "least");
            x.due(1, "count 4");
        });
    }

    private static void undo() {
        edges.edge(25, "The latest change of THE PLAN is taken back: its COST. MISSING: there is none.", x -> {
            x.due(MISSING, "undo");
            three(x);
            x.due(MISSING, "undo");
            x.make("put 0 0 0");
            x.due(0, "undo");
            x.due(MISSING, "undo");
            x.make("put 2 0 0", "put 0 0 0");
            x.due(60, "undo");
            x.round(0, 2);
            x.due(0, "undo", "cost -1");
            x.due(MISSING, "undo", "undo");
        });
        edges.edge(25, "the latest first", x -> {
            three(x);
            x.make("put 2 0 0", "put 1 1 0", "move 2 1 1", "take 1");
            x.round(1, 2);
            x.due(60, "undo");
            x.round(1, 1, 2);
            x.due(100, "undo");
            x.round(0, 2);
            x.make("put 0 0 0");
            x.due(100, "undo");
            x.due(60, "undo");
            x.due(0, "undo");
            x.due(MISSING, "undo");
        });
    }

    private static void undoTwenty() {
        edges.edge(25, "20 at most", x -> {
            x.make("street 0 1 10", "van 9 479 0", "stop 0 479 0 0", "stop 1 479 0 0", "put 0 0 0");
            for (int k = 0; k < 19; k++) x.make(k % 2 == 0 ? "put 1 0 1" : "take 1");
            x.due(20, "count 4");
            for (int k = 0; k < 20; k++) x.due(k % 2 == 0 || k == 19 ? 0 : 20, "undo");
            x.round(0);
            x.due(MISSING, "undo");
        });
        edges.edge(25, "20 at most", x -> {
            x.make("street 0 1 10", "van 9 479 0", "stop 0 479 0 0", "stop 1 479 0 0", "put 0 0 0");
            for (int k = 0; k < 20; k++) x.make(k % 2 == 0 ? "put 1 0 1" : "take 1");
            x.due(20, "count 4");
            for (int k = 0; k < 20; k++) x.due(k % 2 == 0 ? 20 : 0, "undo");
            x.round(0, 0);
            x.due(MISSING, "undo");
            x.due(0, "count 4");
        });
        edges.edge(25, "20 at most", x -> {
            x.make("street 0 1 10", "van 9 479 0", "stop 1 479 0 0");
            for (int k = 0; k < 45; k++) x.make(k % 2 == 0 ? "put 0 0 0" : "take 0");
            x.due(0, "undo");
            x.due(20, "undo");
            x.due(18, "count 4");
            x.make("take 0", "put 0 0 0", "take 0");
            x.due(20, "count 4", "undo");
            for (int k = 0; k < 19; k++) x.due(k % 2 == 0 ? 0 : 20, "undo");
            x.due(MISSING, "undo");
        });
    }

    private static void undoEach() {
        edges.edge(25, TAKEN_BACK, x -> {
            three(x);
            x.make("stop 13 479 0 0", "stop 21 479 0 3");
            x.make("put 0 0 0", "pair 3 0 0 1", "move 0 0 0", "put 1 1 0", "cross 0 1 1 0", "turn 0 0 1", "take 1", "clear");
            x.make("build", "cross 0 0 1 0", "least", "undo", "undo");
            x.round(0, 3, 2, 1, 4, 0);
            x.due(9, "count 4");
            x.due(0, "undo");
            x.due(80, "undo");
            x.round(0, 0);
            x.round(1, 3, 4);
        });
        edges.edge(25, TAKEN_BACK, x -> {
            three(x);
            x.make("put 0 0 0", "put 1 0 1");
            x.due(40, "move 0 0 0", "cross 0 2 1 0");
            x.due(0, "better 0");
            x.due(2, "count 4", "clear");
            x.due(0, "clear");
            x.due(3, "count 4", "build");
            x.due(4, "count 4");
            x.due(0, "build", "better 100", "undo");
            x.due(40, "undo");
        });
        edges.edge(25, "A refused call changes nothing", x -> {
            three(x);
            x.make("put 0 0 0");
            x.due(NO, "put 0 0 0", "take 1", "move 1 0 0", "cross 0 0 0 0", "turn 0 0 0", "better 101");
            x.due(BEYOND, "put 3 0 0", "cross 0 2 1 0", "turn 0 0 1", "pair 0 2 0 0");
            x.due(KIND, "pair 0 0 0 1");
            x.due(BELOW, "better -1");
            x.due(1, "count 4");
            x.due(0, "undo");
            x.due(MISSING, "undo");
        });
    }

    private static void undoTold() {
        String[] told = {"street 5 6 7", "street 0 1 10", "slow 0 1 7 10", "stop 0 479 0 0", "span 0 479", "price 3 1",
            "van 9 479 0", "shift 0 479", "street 6 7 0"};
        for (String call : told) {
            edges.edge(25, "a call that tells of STREETS, STOPS, VANS (street() to shift()) and isn't refused leaves none", x -> {
                three(x);
                x.make("stop 33 479 0 0", "put 0 0 0", "put 1 0 1");
                x.due(2, "count 4");
                x.make(call);
                x.due(0, "count 4");
                x.due(MISSING, "undo");
                x.round(0, 0, 1);
                x.make("put 2 0 2");
                x.due(40, "undo");
                x.due(MISSING, "undo");
            });
        }
        String[] refused = {"street 0 1 0", "street 8 0 1", "street 0 1 100", "slow 0 3 0 1", "slow 0 1 8 1", "slow 0 1 0 0",
            "stop 8 479 0 0", "stop 0 480 0 0", "stop 20 479 0 0", "span 0 9", "span 4 9", "price 0 1", "price 3 0", "van 0 479 0",
            "van 9 480 0", "shift 0 9", "shift 2 479"};
        for (String call : refused) {
            edges.edge(25, "and isn't refused leaves none", x -> {
                three(x);
                x.make("stop 33 479 0 0", "put 0 0 0", "put 1 0 1");
                x.refused(call);
                x.due(2, "count 4");
                x.due(20, "undo");
                x.due(0, "undo");
            });
        }
    }

    private static void clear() {
        edges.edge(26, "All ROUNDS are empty: how many STOPS were in them.", x -> {
            x.due(0, "clear", "count 4");
            three(x);
            x.due(0, "clear", "count 4");
            x.make("put 0 0 0", "put 2 1 0", "put 1 1 0");
            x.due(3, "clear");
            x.round(0);
            x.round(1);
            x.due(0, "cost -1", "clear");
            x.due(4, "count 4");
            x.due(80, "undo");
            x.round(1, 1, 2);
        });
        edges.edge(26, "12 in all", x -> {
            x.make("van 9 479 0", "van 9 479 0", "van 9 479 0");
            for (int stop = 0; stop < 12; stop++) x.make("stop 0 479 0 0", "put " + stop + " " + stop % 3 + " 0");
            x.due(12, "clear", "count 2");
            x.due(0, "clear", "undo");
            x.due(12, "clear");
        });
        edges.edge(26, "a FETCH with its DROP", x -> {
            x.make("van 9 479 0", "stop 10 479 0 0", "stop 20 479 0 0", "pair 0 0 0 1");
            x.due(2, "clear");
            x.due(0, "count 6", "undo");
            x.round(0, 0, 1);
        });
    }

    private static void count() {
        edges.edge(27, "NO.", x -> {
            x.due(0, "count 0", "count 6");
            x.due(NO, "count -1", "count 7", "count LOW", "count HIGH", "count -7");
            x.due(5, "status -7");
        });
        edges.edge(27, "STOPS (what = 0), VANS (1)", x -> {
            for (int stop = 0; stop < 12; stop++) {
                x.due(stop, "count 0");
                x.make("stop 0 479 0 0");
            }
            x.due(FULL, "stop 0 479 0 0");
            x.due(12, "count 0", "count 2");
            for (int van = 0; van < 3; van++) {
                x.due(van, "count 1");
                x.make("van 9 479 0");
            }
            x.due(FULL, "van 9 479 0");
            x.due(3, "count 1");
        });
    }

    private static void countPlan() {
        edges.edge(27, "STOPS in no ROUND (2), MUST STOPS of these (3)", x -> {
            x.make("van 9 479 0", "stop 0 479 0 0", "stop 40 479 0 0", "stop 30 479 0 0", "stop 10 479 0 0", "stop 40 479 0 0");
            x.due(5, "count 2");
            x.due(2, "count 3");
            x.make("put 1 0 0");
            x.due(4, "count 2");
            x.due(1, "count 3");
            x.make("put 4 0 0");
            x.due(3, "count 2");
            x.due(0, "count 3");
            x.make("build");
            x.due(0, "count 2", "count 3");
            x.make("clear");
            x.due(2, "count 3");
        });
        edges.edge(27, "MUST STOPS of these (3)", x -> {
            x.make("van 9 479 0", "stop 40 479 0 0");
            x.due(1, "count 3", "count 2");
            x.make("put 0 0 0");
            x.due(0, "count 3", "count 2");
            for (int stop = 1; stop < 12; stop++) x.make("stop 40 479 0 0");
            x.due(11, "count 3");
            x.make("take 0");
            x.due(12, "count 3");
        });
        edges.edge(27, "changes that can be taken back (4)", x -> {
            x.make("van 9 479 0", "stop 0 479 0 0");
            for (int k = 0; k < 25; k++) {
                x.due(Math.min(k, 20), "count 4");
                x.make(k % 2 == 0 ? "put 0 0 0" : "take 0");
            }
            x.due(20, "count 4");
            x.make("undo");
            x.due(19, "count 4");
            x.make("span 0 478");
            x.due(0, "count 4");
        });
    }

    private static void countMinutes() {
        edges.edge(27, "all minutes of waiting ahead of SPANS (5)", x -> {
            line(x);
            x.make("stop 1 479 0 0", "stop 2 479 0 0", "put 0 0 0", "put 1 1 0");
            x.due(0, "count 5");
            x.make("span 0 10479", "span 1 19479");
            x.due(0, "count 5");
            x.make("span 0 11479", "span 1 21479");
            x.due(2, "count 5");
            x.make("span 0 400479");
            x.due(391, "count 5");
            x.make("take 0");
            x.due(1, "count 5");
        });
        edges.edge(27, "minutes behind SPANS of SOFT ones (6)", x -> {
            line(x);
            x.make("stop 31 10 0 0", "stop 32 20 0 0", "price 0 9", "put 0 0 0", "put 1 1 0");
            x.due(0, "count 6");
            x.make("span 0 9", "span 1 18");
            x.due(3, "count 6");
            x.make("take 1");
            x.due(1, "count 6");
            x.make("clear");
            x.due(0, "count 6", "count 5");
        });
    }
}
