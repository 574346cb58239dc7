import java.io.IOException;

/** The edges of promises 28 to 32: THE ROW as it is laid, torn, read and copied, and how many calls were refused. */
public final class RowEdgesTest {
    private static final int NONE = Edges.NONE, MISSING = Edges.MISSING, BEYOND = Edges.BEYOND, BELOW = Edges.BELOW;
    private static final int KIND = Edges.KIND, COPY = Edges.COPY, NO = Edges.NO, FULL = Edges.FULL;
    private static final String CHANGES_NOTHING = "A refused call changes nothing but status().";

    private static Edges edges;

    public static void main(String[] args) throws IOException {
        edges = new Edges("RowEdgesTest");
        lay();
        layFull();
        layRefused();
        tear();
        row();
        copy();
        copyOverlap();
        copyRefused();
        copyOrder();
        status();
        statusNumbers();
        statusOfEach();
        edges.end(28, 32);
    }

    /** A row of five numbers, 3, 13, 23, 33 and 43, of a van that is there at 3. */
    private static void five(Run x) {
        x.make("street 0 1 10", "van 9 3479 0", "van 9 479 0");
        for (int stop = 0; stop < 5; stop++) x.make("stop " + stop % 2 + " 479 0 0", "put " + stop + " 0 " + stop);
        x.due(5, "lay 0");
        x.row(3, 13, 23, 33, 43);
    }

    private static void lay() {
        edges.edge(28, "THE ROW becomes when a VAN BEGINS at its STOPS: how many.", x -> {
            x.make("street 0 1 10", "van 9 479 0", "stop 1 15479 500 0", "stop 1 479 0 0");
            x.due(0, "lay 0");
            x.due(BEYOND, "row 0");
            x.make("put 0 0 0");
            x.due(BEYOND, "row 0");
            x.due(1, "lay 0");
            x.row(15);
            x.make("put 1 0 0");
            x.row(15);
            x.due(2, "lay 0");
            x.row(10, 15);
            x.make("move 1 0 1");
            x.due(2, "lay 0");
            x.row(15, 20);
            x.make("clear");
            x.row(15, 20);
            x.due(0, "lay 0");
            x.due(BEYOND, "row 0");
        });
        edges.edge(28, "when a VAN BEGINS at its STOPS", x -> {
            x.make("van 9 479 0", "van 9 479479 0", "stop 0 0 0 0", "stop 0 479479 0 0", "put 0 0 0", "put 1 1 0");
            x.due(1, "lay 0");
            x.row(0);
            x.due(1, "lay 1");
            x.row(479);
        });
    }

    private static void layFull() {
        edges.edge(28, "12 in all", x -> {
            x.make("van 9 479 0");
            for (int stop = 0; stop < 12; stop++) x.make("stop 0 479 100 0", "put " + stop + " 0 " + stop);
            x.due(12, "lay 0");
            x.row(0, 1, 2, 3, 4, 5, 6, 7, 8, 9, 10, 11);
            x.due(11, "copy 1 0 11");
            x.row(1, 2, 3, 4, 5, 6, 7, 8, 9, 10, 11, 11);
            x.due(12, "copy 0 0 12");
            x.due(COPY, "copy 0 0 13", "copy 1 0 12", "copy 0 1 12", "copy 12 0 1", "copy 0 12 1", "copy 13 0 0");
            x.due(0, "copy 12 12 0");
        });
    }

    private static void layRefused() {
        edges.edge(28, "BEYOND.", x -> {
            x.due(BEYOND, "lay 0", "lay -1");
            x.due(MISSING, "row 0");
            x.make("van 9 479 0", "van 9 479 0", "van 9 479 0");
            x.due(BEYOND, "lay 3", "lay -1", "lay LOW", "lay HIGH");
            x.due(0, "tear", "lay 2", "lay 0");
        });
        edges.edge(28, CHANGES_NOTHING, x -> {
            five(x);
            x.make("copy 0 1 2");
            x.due(BEYOND, "lay 2", "lay -1");
            x.row(3, 3, 13, 33, 43);
        });
    }

    private static void tear() {
        edges.edge(29, "THE ROW is missing: 1 if it was there, else 0 (at first it is missing).", x -> {
            x.due(0, "tear", "tear");
            x.make("van 9 479 0");
            x.due(0, "tear", "lay 0");
            x.due(1, "tear");
            x.due(0, "tear");
            x.due(MISSING, "row 0", "copy 0 0 0");
            x.make("stop 0 479 0 0", "put 0 0 0");
            x.due(0, "tear");
            x.due(1, "lay 0", "lay 0", "tear");
            x.due(MISSING, "row 0");
            x.due(1, "lay 0");
            x.row(0);
        });
    }

    private static void row() {
        edges.edge(30, "Number i of THE ROW. MISSING, BEYOND.", x -> {
            x.due(MISSING, "row 0", "row -1", "row 12", "row LOW", "row HIGH");
            five(x);
            x.due(3, "row 0");
            x.due(43, "row 4");
            x.due(BEYOND, "row 5", "row -1", "row 6", "row 11", "row 12", "row LOW", "row HIGH");
            x.make("take 4", "lay 0");
            x.due(33, "row 3");
            x.due(BEYOND, "row 4");
            x.make("tear");
            x.due(MISSING, "row 0", "row 3", "row 4", "row -1");
        });
        edges.edge(30, "BEYOND", x -> {
            five(x);
            x.due(0, "lay 1");
            x.due(BEYOND, "row 0", "row -1", "row 4");
        });
    }

    private static void copy() {
        edges.edge(31, "n numbers of THE ROW, from place i on, come to its place j on (as they were): n.", x -> {
            five(x);
            x.due(1, "copy 4 0 1");
            x.row(43, 13, 23, 33, 43);
            x.due(1, "copy 1 4 1");
            x.row(43, 13, 23, 33, 13);
            x.due(2, "copy 0 3 2");
            x.row(43, 13, 23, 43, 13);
            x.due(5, "copy 0 0 5");
            x.row(43, 13, 23, 43, 13);
        });
        edges.edge(31, "BELOW: n", x -> {
            five(x);
            x.due(0, "copy 0 0 0", "copy 5 5 0", "copy 0 5 0", "copy 5 0 0", "copy 2 3 0");
            x.due(BELOW, "copy 0 0 -1", "copy 5 5 -1", "copy 0 0 LOW");
            x.row(3, 13, 23, 33, 43);
        });
        edges.edge(31, "n numbers of THE ROW", x -> {
            x.make("van 9 479 0");
            x.due(0, "lay 0", "copy 0 0 0");
            x.due(COPY, "copy 0 0 1", "copy 1 0 0", "copy 0 1 0", "copy -1 0 0", "copy 0 -1 0");
            x.due(BELOW, "copy 0 0 -1");
        });
    }

    private static void copyOverlap() {
        edges.edge(31, "(as they were)", x -> {
            five(x);
            x.due(4, "copy 0 1 4");
            x.row(3, 3, 13, 23, 33);
            x.due(4, "copy 1 0 4");
            x.row(3, 13, 23, 33, 33);
            x.due(3, "copy 0 2 3");
            x.row(3, 13, 3, 13, 23);
            x.due(3, "copy 2 1 3");
            x.row(3, 3, 13, 23, 23);
        });
    }

    private static void copyRefused() {
        edges.edge(31, "COPY: i or j below 0, i + n or j + n above how many there are.", x -> {
            five(x);
            x.due(COPY, "copy -1 0 1", "copy 0 -1 1", "copy -1 0 0", "copy 0 -1 0", "copy -1 -1 1", "copy -5 0 5", "copy 0 -5 5");
            x.due(COPY, "copy 1 0 5", "copy 0 1 5", "copy 0 0 6", "copy 5 0 1", "copy 0 5 1", "copy 6 0 0", "copy 0 6 0");
            x.due(3, "copy 2 2 3");
            x.due(1, "copy 4 4 1");
        });
        edges.edge(31, "i + n or j + n above how many there are", x -> {
            five(x);
            x.due(COPY, "copy HIGH 0 1", "copy 0 HIGH 1", "copy HIGH HIGH HIGH", "copy 0 0 HIGH", "copy 1 0 HIGH", "copy 0 1 HIGH");
            x.due(COPY, "copy LOW 0 1", "copy 0 LOW 1", "copy LOW LOW HIGH", "copy HIGH 0 2", "copy 0 HIGH 5", "copy HIGH HIGH 2");
            x.due(COPY, "copy 5 5 2147483643", "copy HIGH 0 0", "copy 0 HIGH 0");
            x.row(3, 13, 23, 33, 43);
        });
    }

    private static void copyOrder() {
        edges.edge(31, "MISSING, BELOW: n; COPY", x -> {
            x.due(MISSING, "copy 0 0 0", "copy 0 0 -1", "copy -1 0 1", "copy -1 -1 -1", "copy 9 9 9", "copy 0 0 LOW");
            five(x);
            x.due(BELOW, "copy -1 0 -1", "copy 0 -1 -1", "copy 6 0 -1", "copy 0 HIGH LOW", "copy LOW LOW LOW");
            x.due(COPY, "copy -1 0 0", "copy 0 6 0");
            x.make("tear");
            x.due(MISSING, "copy 0 0 1", "copy 0 0 -1", "copy 9 9 9");
        });
        edges.edge(31, CHANGES_NOTHING, x -> {
            five(x);
            x.due(COPY, "copy 0 1 5", "copy 1 0 5", "copy 3 0 3", "copy 0 3 3");
            x.due(BELOW, "copy 0 1 -3");
            x.row(3, 13, 23, 33, 43);
        });
    }

    private static void status() {
        edges.edge(32, "How many calls were refused by an answer -2 .. -8.", x -> {
            for (int by = -8; by <= -2; by++) x.due(0, "status " + by);
            x.due(MISSING, "undo");
            x.due(1, "status -2");
            x.due(MISSING, "row 0");
            x.due(2, "status -2", "status -2");
            x.due(0, "status -3", "status -8");
        });
        edges.edge(32, "None.", x -> {
            x.make("stop 0 479 0 0");
            x.due(NONE, "way 0 1 0", "where", "look 0 4", "look 0 5", "look 0 6");
            for (int by = -8; by <= -2; by++) x.due(0, "status " + by);
        });
    }

    private static void statusNumbers() {
        edges.edge(32, "NO: another number.", x -> {
            x.due(0, "status -2", "status -8", "status -7");
            x.due(NO, "status -1", "status -9", "status 0", "status 2", "status 8", "status LOW", "status HIGH");
            x.due(7, "status -7");
            x.due(NO, "status -1");
            x.due(8, "status -7");
            x.due(0, "status -2", "status -3", "status -4", "status -5", "status -6", "status -8");
        });
    }

    private static void statusOfEach() {
        edges.edge(32, "BEYOND a number beyond, MISSING nothing there, KIND a STOP of another kind, BELOW a count below 0, COPY, NO not "
                + "as told, FULL no room", x -> {
            x.make("van 9 479 0", "van 9 479 0", "van 9 479 0", "stop 0 479 0 0", "lay 0");
            x.due(MISSING, "undo", "slow 0 1 0 1");
            x.due(BEYOND, "look 1 0", "way 8 0 0", "cost 3");
            x.due(BELOW, "better -1", "copy 0 0 -1", "better LOW", "copy 9 9 -9");
            x.due(KIND, "price 0 1", "pair 0 0 0 0", "stop 20 479 0 0", "price 0 0", "pair 0 1 9 9");
            x.due(COPY, "copy 1 0 0", "copy 0 1 0", "copy 0 0 1", "copy -1 0 0", "copy 0 -1 0", "copy 0 0 2");
            x.due(NO, "take 0", "count 7", "look 0 7", "span 0 480", "shift 0 480", "better 101", "status -1");
            x.due(FULL, "van 9 479 0", "least", "van 9 479 0", "least", "least", "least", "van 1 0 0", "least");
            for (int by = -8; by <= -2; by++) x.due(-by, "status " + by);
        });
    }
}
