import java.io.IOException;

/** The edges of promises 11 to 15: rounds, their times and costs, why one doesn't fit, and where. */
public final class RoundEdgesTest {
    private static final int NONE = Edges.NONE, BEYOND = Edges.BEYOND, NO = Edges.NO;
    private static final String CHANGES_NOTHING = "A refused call changes nothing but status().";
    private static final String PAIRS = "1 there is a DROP without its FETCH ahead of it in this ROUND, or a FETCH that "
            + "has a DROP, without that in this ROUND";
    private static final String LOADS = "2 more than LOAD is aboard (ahead of the first STOP, or behind one)";
    private static final String FIRST = "the first that is so, in this order, is WHY";

    private static Edges edges;

    public static void main(String[] args) throws IOException {
        edges = new Edges("RoundEdgesTest");
        round();
        when();
        whenRefused();
        aboard();
        cost();
        costOfLate();
        why();
        pairs();
        loads();
        inTime();
        lastMinutes();
        back();
        order();
        where();
        whereOfEach();
        edges.end(11, 15);
    }

    /** Yard, then places 1, 2, 3 on a line, 10 minutes apart; a van all day, LOAD 100, for nothing. */
    private static void line(Run x) {
        x.make("street 0 1 10", "street 1 2 10", "street 2 3 10", "van 100 479 0");
    }

    /** Twelve stops at the yard, of which two fetch and two drop, all in one round. */
    private static void full(Run x) {
        x.make("van 200 479 0");
        for (int stop = 0; stop < 8; stop++) x.make("stop 0 479 105 0");
        x.make("stop 10 479 5 0", "stop 10 479 5 0", "stop 20 479 0 8", "stop 20 479 0 9");
        for (int stop = 0; stop < 8; stop++) x.make("put " + stop + " 0 " + stop);
        x.make("pair 8 0 0 9", "pair 9 0 0 11");
    }

    private static void round() {
        edges.edge(11, "STOP i of a ROUND, from 0 (i = NONE: how many it has).", x -> {
            line(x);
            x.due(0, "round 0 -1");
            x.due(BEYOND, "round 0 0");
            x.make("stop 1 479 0 0", "stop 2 479 0 0", "put 1 0 0");
            x.round(0, 1);
            x.make("put 0 0 0");
            x.round(0, 0, 1);
            x.due(BEYOND, "round 0 2", "round 0 3", "round 0 -2", "round 0 11", "round 0 12", "round 0 LOW", "round 0 HIGH");
            x.make("take 0");
            x.round(0, 1);
        });
        edges.edge(11, "BEYOND (VAN, i).", x -> {
            x.due(BEYOND, "round 0 -1", "round 0 0", "round -1 -1", "round -1 0");
            line(x);
            x.due(BEYOND, "round 1 -1", "round 1 0", "round 2 -1", "round 3 -1", "round LOW -1", "round HIGH 0", "round -1 -1");
            x.due(BEYOND, "round 0 -3");
        });
        edges.edge(11, "(each in one ROUND at most, 12 in all)", x -> {
            full(x);
            x.round(0, 9, 8, 0, 1, 2, 3, 4, 5, 6, 7, 10, 11);
            for (int stop = 0; stop < 12; stop++) x.due(NO, "put " + stop + " 0 12");
        });
    }

    private static void when() {
        edges.edge(12, "BEGINS there as it comes, or at the SPAN's from, if that is later", x -> {
            line(x);
            x.make("stop 1 9479 300 0", "put 0 0 0");
            x.when(0, 0, 10, 10, 13, 0);
            x.make("span 0 10479");
            x.when(0, 0, 10, 10, 13, 0);
            x.make("span 0 11479");
            x.when(0, 0, 10, 11, 14, 0);
            x.make("span 0 466479");
            x.when(0, 0, 10, 466, 469, 0);
            x.due(479, "when 0 1 0");
        });
        edges.edge(12, "is there SERVE minutes", x -> {
            line(x);
            x.make("stop 1 479 0 0", "stop 1 479 6000 0", "put 0 0 0", "put 1 0 1");
            x.when(0, 0, 10, 10, 10, 0);
            x.when(0, 1, 10, 10, 70, 0);
            x.due(80, "when 0 2 0");
        });
        edges.edge(12, "It sets out from THE YARD at the beginning of its SHIFT", x -> {
            line(x);
            x.make("stop 1 479 0 0", "put 0 0 0");
            x.when(0, 0, 10, 10, 10, 0);
            x.make("shift 0 459479");
            x.when(0, 0, 469, 469, 469, 0);
            x.due(479, "when 0 1 0");
        });
        edges.edge(12, "of i = how many it has: when it is back (0)", x -> {
            line(x);
            x.make("stop 1 479 0 0", "stop 2 479 0 0", "put 0 0 0");
            x.due(20, "when 0 1 0");
            x.due(NO, "when 0 1 1", "when 0 1 2", "when 0 1 3", "when 0 1 4", "when 0 1 -1", "when 0 1 HIGH");
            x.due(BEYOND, "when 0 2 0");
            x.make("put 1 0 1");
            x.due(20, "when 0 1 0", "when 0 1 1", "when 0 1 2");
            x.due(40, "when 0 2 0");
            x.due(BEYOND, "when 0 3 0");
        });
        edges.edge(12, "12 in all", x -> {
            full(x);
            x.when(0, 0, 0, 0, 0, 45);
            x.when(0, 1, 0, 0, 0, 50);
            x.when(0, 11, 8, 8, 8, 0);
            x.due(8, "when 0 12 0");
            x.due(NO, "when 0 12 1");
            x.due(BEYOND, "when 0 13 0");
        });
    }

    private static void whenRefused() {
        edges.edge(12, "BEYOND (VAN, i, an empty ROUND), NO.", x -> {
            x.due(BEYOND, "when 0 0 0", "when -1 0 0", "when 0 0 4");
            line(x);
            x.make("van 9 479 0", "stop 0 479 0 0", "put 0 0 0");
            x.due(BEYOND, "when 1 0 0", "when 1 0 4", "when 1 1 0", "when 1 -1 -1", "when 1 0 -1");
            x.due(BEYOND, "when 2 0 0", "when -1 0 0", "when 2 0 4", "when LOW 0 0", "when HIGH 0 -1");
            x.due(BEYOND, "when 0 -1 0", "when 0 2 0", "when 0 2 4", "when 0 -1 -1", "when 0 LOW 0", "when 0 HIGH 5");
            x.due(NO, "when 0 0 4", "when 0 0 -1", "when 0 0 LOW", "when 0 0 HIGH", "when 0 1 1");
            x.due(0, "when 0 0 0", "when 0 0 1", "when 0 0 2", "when 0 0 3", "when 0 1 0");
        });
        edges.edge(12, "an empty ROUND", x -> {
            line(x);
            x.make("stop 0 479 0 0", "put 0 0 0", "take 0");
            x.due(BEYOND, "when 0 0 0", "when 0 1 0", "when 0 0 1");
        });
    }

    private static void aboard() {
        edges.edge(12, "what is aboard then (3)", x -> {
            x.make("van 200 479 0", "stop 0 479 50 0", "stop 30 479 50 0", "stop 40 479 50 0", "stop 10 479 50 0");
            x.make("stop 20 479 99 3", "stop 10 479 1 0");
            x.make("put 0 0 0", "put 1 0 1", "put 2 0 2", "pair 3 0 0 4");
            int[] want = {200, 150, 100, 50, 0};
            for (int i = 0; i < 5; i++) x.due(want[i], "when 0 " + i + " 3");
            x.due(2, "why 5 0 1");
            x.make("put 5 0 2");
            want = new int[] {200, 150, 151, 101, 51, 1};
            for (int i = 0; i < 6; i++) x.due(want[i], "when 0 " + i + " 3");
        });
        edges.edge(12, "0 BRING: its AMOUNT is aboard from the beginning of the round, and leaves the van there.", x -> {
            line(x);
            x.make("stop 1 479 0 0", "stop 2 479 50 0", "put 0 0 0", "put 1 0 1");
            x.due(50, "when 0 0 3");
            x.due(0, "when 0 1 3");
        });
    }

    private static void cost() {
        edges.edge(13, "COST of a ROUND, or of THE PLAN (van = NONE).", x -> {
            x.due(0, "cost -1");
            line(x);
            x.make("van 9 100479 500", "van 9 479 7", "stop 1 479 500 0", "stop 2 479 500 0");
            x.due(0, "cost -1", "cost 0", "cost 1", "cost 2");
            x.make("put 0 0 0", "put 1 1 0");
            x.due(20, "cost 0");
            x.due(540, "cost 1");
            x.due(0, "cost 2");
            x.due(560, "cost -1");
        });
        edges.edge(13, "of an empty one 0", x -> {
            x.make("van 9 100479 500", "stop 0 479 0 0");
            x.due(0, "cost 0");
            x.due(500, "put 0 0 0");
            x.due(0, "take 0", "cost 0", "cost -1");
        });
        edges.edge(13, "all minutes from its beginning till it is back, less all SERVE", x -> {
            line(x);
            x.make("stop 1 100200 6000 0", "stop 0 479 6000 0", "put 0 0 0");
            x.due(110, "cost 0");
            x.due(50, "put 1 0 0");
            x.due(110, "move 1 0 1");
            x.make("shift 0 90479");
            x.due(20, "cost 0");
        });
        edges.edge(13, "BEYOND.", x -> {
            x.due(BEYOND, "cost 0", "cost -2", "cost 1");
            line(x);
            x.due(BEYOND, "cost 1", "cost 3", "cost -2", "cost LOW", "cost HIGH");
            x.due(0, "cost 0", "cost -1");
        });
    }

    private static void costOfLate() {
        edges.edge(13, "for each SOFT STOP that BEGINS behind its SPAN PRICE for each minute", x -> {
            line(x);
            x.make("stop 31 10 0 0", "put 0 0 0");
            x.due(20, "cost 0");
            x.due(10, "span 0 9");
            x.due(21, "cost 0");
            x.make("price 0 9");
            x.due(29, "cost 0");
            x.make("span 0 0");
            x.due(110, "cost 0");
            x.make("stop 33 29 100 0", "price 1 2");
            x.due(60 + 9 * 10 + 2, "put 1 0 1");
            x.due(10 + 1, "count 6");
        });
        edges.edge(13, "as BRING, but may begin behind its SPAN, for PRICE (1 .. 9; 1 at first) a minute", x -> {
            x.make("street 0 1 10", "van 9 459479 0", "stop 31 0 0 0", "price 0 9", "put 0 0 0");
            x.due(20 + 9 * 469, "cost 0");
            x.due(469, "count 6");
        });
    }

    private static void why() {
        edges.edge(14, "WHY a STOP can't be PUT ahead of place i of a ROUND: 0 it can, 1 .. 4.", x -> {
            line(x);
            x.make("stop 1 479 0 0", "stop 2 479 0 0");
            x.due(0, "why 0 0 0");
            x.due(BEYOND, "why 0 0 1", "why 0 0 -1");
            x.make("put 0 0 0");
            x.due(0, "why 1 0 0", "why 1 0 1");
            x.due(BEYOND, "why 1 0 2", "why 1 0 -1", "why 1 0 LOW", "why 1 0 HIGH");
            x.round(0, 0);
            x.due(1, "count 4");
        });
        edges.edge(14, "BEYOND (STOP, VAN, i), NO: it is in a ROUND.", x -> {
            x.due(BEYOND, "why 0 0 0", "why -1 -1 -1");
            line(x);
            x.make("van 9 479 0", "stop 0 479 0 0", "stop 0 479 0 0", "put 0 0 0");
            x.due(NO, "why 0 0 0", "why 0 0 1", "why 0 1 0");
            x.due(BEYOND, "why 2 0 0", "why -1 0 0", "why 1 2 0", "why 1 -1 0", "why 1 0 2", "why 1 1 1", "why 1 0 -1");
            x.due(BEYOND, "why 0 0 2", "why 0 1 1", "why 0 2 0", "why 0 0 -1", "why 0 -1 0", "why LOW 0 0", "why 1 HIGH 0");
            x.due(0, "why 1 0 0", "why 1 0 1", "why 1 1 0");
        });
        edges.edge(14, "12 in all", x -> {
            full(x);
            x.make("take 7");
            x.due(0, "why 7 0 0", "why 7 0 11");
            x.due(BEYOND, "why 7 0 12");
        });
    }

    private static void pairs() {
        edges.edge(14, PAIRS, x -> {
            x.make("van 9 479 0", "stop 10 479 5 0", "stop 0 479 0 0", "put 1 0 0");
            x.due(0, "why 0 0 0", "why 0 0 1");
            x.make("stop 20 479 0 0");
            x.due(1, "why 0 0 0", "why 0 0 1", "why 2 0 0", "why 2 0 1");
            x.due(0, "pair 0 0 0 1");
            x.due(NO, "move 2 0 0", "move 0 0 1", "move 0 0 2");
            x.due(0, "move 2 0 2", "move 0 0 1");
        });
        edges.edge(15, "of 1, 3 the place in the ROUND of the first such STOP (of a FETCH without DROP its own)", x -> {
            x.make("van 9 479 0", "stop 10 479 5 0", "stop 20 479 0 0", "stop 0 479 0 0", "stop 0 479 0 0");
            x.make("put 2 0 0", "put 3 0 1");
            for (int i = 0; i < 3; i++) {
                x.due(1, "why 0 0 " + i);
                x.due(i, "where");
                x.due(1, "why 1 0 " + i);
                x.due(i, "where");
            }
        });
    }

    private static void loads() {
        edges.edge(14, LOADS, x -> {
            x.make("van 50 479 0", "stop 0 479 50 0", "stop 0 479 1 0", "stop 10 479 50 0", "stop 10 479 1 0");
            x.due(0, "why 0 0 0", "why 2 0 0");
            x.make("put 0 0 0");
            x.due(2, "why 1 0 0", "why 1 0 1", "why 2 0 0", "why 3 0 0");
            x.due(0, "why 2 0 1", "why 3 0 1");
            x.make("put 2 0 1");
            x.due(2, "why 3 0 0", "why 3 0 1", "why 3 0 2");
            x.make("take 2", "put 3 0 1");
            x.due(2, "why 2 0 1", "why 2 0 2");
        });
        edges.edge(14, "more than LOAD is aboard", x -> {
            x.make("van 1 479 0", "stop 0 479 1 0", "stop 30 479 2 0", "stop 40 479 1 0", "stop 10 479 0 0");
            x.due(0, "why 0 0 0", "why 2 0 0");
            x.due(2, "why 1 0 0");
            x.make("put 0 0 0");
            x.due(2, "why 2 0 0", "why 2 0 1");
            x.due(0, "why 3 0 0", "why 3 0 1");
        });
        edges.edge(15, "of 2 that behind which it is so (NONE: ahead of the first)", x -> {
            x.make("van 50 479 0", "stop 0 479 25 0", "stop 0 479 25 0", "stop 40 479 1 0", "stop 10 479 50 0", "stop 10 479 25 0");
            x.make("put 0 0 0", "put 1 0 1");
            for (int i = 0; i < 3; i++) {
                x.due(2, "why 2 0 " + i);
                x.due(NONE, "where");
            }
            x.due(2, "why 3 0 0");
            x.due(0, "where");
            x.due(2, "why 3 0 1");
            x.due(1, "where");
            x.due(0, "why 3 0 2");
            x.due(NONE, "where");
            x.make("put 3 0 2");
            x.due(2, "why 4 0 1");
            x.due(3, "where");
            x.due(2, "why 4 0 3");
            x.due(3, "where");
            x.due(2, "why 4 0 0");
            x.due(0, "where");
        });
    }

    private static void inTime() {
        edges.edge(14, "3 there is no WAY to a STOP, or it BEGINS behind its SPAN's to (of a SOFT one not)", x -> {
            line(x);
            x.make("stop 1 10 0 0", "stop 1 9 0 0", "stop 31 9 0 0", "stop 41 9 0 0", "stop 11 9 0 0", "stop 31 0 0 0");
            x.due(0, "why 0 0 0", "why 2 0 0", "why 5 0 0");
            x.due(3, "why 1 0 0", "why 3 0 0", "why 4 0 0");
            x.make("stop 10 479 0 0", "stop 21 9 0 6");
            x.due(NO, "pair 6 0 0 1");
            x.make("span 7 10");
            x.due(20, "pair 6 0 0 1");
        });
        edges.edge(14, "there is no WAY to a STOP", x -> {
            line(x);
            x.make("stop 4 479 0 0", "stop 34 0 0 0", "stop 0 479 0 0");
            x.due(3, "why 0 0 0", "why 1 0 0");
            x.due(0, "where", "why 2 0 0");
            x.make("put 2 0 0");
            x.due(3, "why 0 0 1");
            x.due(1, "where");
            x.make("street 4 3 10");
            x.due(0, "why 0 0 1", "why 1 0 0");
        });
        edges.edge(15, "of 1, 3 the place in the ROUND of the first such STOP", x -> {
            line(x);
            x.make("stop 1 479 500 0", "stop 2 25 0 0", "stop 1 14 0 0", "stop 1 479 0 0", "stop 1 479 600 0", "stop 3 35 0 0");
            x.make("put 0 0 0", "put 1 0 1", "put 5 0 2");
            x.due(3, "why 2 0 1");
            x.due(1, "where");
            x.due(3, "why 2 0 3");
            x.due(3, "where");
            x.due(3, "why 4 0 0");
            x.due(2, "where");
            x.due(0, "why 3 0 0", "why 2 0 0", "why 3 0 1");
            x.due(3, "why 3 0 2");
            x.due(3, "where");
        });
    }

    private static void lastMinutes() {
        edges.edge(14, "or at minute 480 or later", x -> {
            x.make("van 9 420479 0", "stop 0 479 5900 0", "stop 0 479 6000 0", "stop 30 0 0 0", "put 2 0 0");
            x.due(0, "why 0 0 0");
            x.due(3, "why 1 0 0");
            x.due(1, "where");
            x.due(4, "why 1 0 1");
            x.due(2, "where");
            x.due(479, "put 0 0 0", "count 6");
        });
        edges.edge(14, "or it BEGINS behind its SPAN's to (of a SOFT one not), or at minute 480 or later", x -> {
            x.make("street 0 1 10", "van 9 469479 0", "stop 31 0 0 0");
            x.due(4, "why 0 0 0");
            x.due(1, "where");
            x.make("shift 0 470479");
            x.due(3, "why 0 0 0");
            x.due(0, "where");
            x.make("shift 0 479479");
            x.due(3, "why 0 0 0");
            x.make("stop 30 0 0 0");
            x.due(0, "why 1 0 0");
        });
        edges.edge(14, "(From minute 480 on nobody sets out on any.)", x -> {
            x.make("street 0 1 1", "van 9 420479 0", "stop 0 479 5900 0", "stop 0 479 6000 0", "stop 31 0 0 0", "stop 30 0 0 0");
            x.make("put 0 0 0");
            x.due(3, "why 2 0 1");
            x.due(1, "where");
            x.due(0, "why 3 0 1");
            x.make("take 0");
            x.due(4, "why 1 0 0");
            x.due(1, "where");
        });
    }

    private static void back() {
        edges.edge(14, "4 there is no WAY back, or it comes to THE YARD behind the SHIFT's to.", x -> {
            line(x);
            x.make("shift 0 20", "stop 1 479 0 0", "stop 1 11011 0 0", "stop 1 479 100 0", "stop 0 20020 0 0", "stop 0 21021 0 0");
            x.due(0, "why 0 0 0", "why 3 0 0");
            x.due(4, "why 1 0 0", "why 2 0 0", "why 4 0 0");
        });
        edges.edge(14, "there is no WAY back", x -> {
            x.make("street 0 1 1", "van 9 479 0", "stop 1 479 6000 0", "stop 1 478478 200 0", "stop 1 478478 100 0");
            x.make("stop 1 478478 0 0");
            x.due(4, "why 1 0 0", "why 2 0 0");
            x.due(1, "where");
            x.due(0, "why 3 0 0");
        });
        edges.edge(15, "of 4 how many STOPS it has", x -> {
            line(x);
            x.make("shift 0 20", "stop 1 479 0 0", "stop 1 479 100 0", "stop 1 479 0 0", "stop 2 479 0 0");
            x.due(4, "why 1 0 0", "why 3 0 0");
            x.due(1, "where");
            x.make("put 0 0 0");
            for (int i = 0; i < 2; i++) {
                x.due(4, "why 1 0 " + i);
                x.due(2, "where");
            }
            x.make("put 2 0 0");
            for (int i = 0; i < 3; i++) {
                x.due(4, "why 3 0 " + i);
                x.due(3, "where");
            }
        });
    }

    private static void order() {
        edges.edge(14, FIRST, x -> {
            line(x);
            x.make("stop 13 5 50 0", "stop 23 5 0 0", "stop 0 479 50 0", "stop 0 479 50 0", "shift 0 30");
            x.due(1, "why 0 0 0", "why 1 0 0");
            x.make("put 2 0 0", "put 3 0 1");
            x.due(1, "why 0 0 0", "why 1 0 0");
        });
        edges.edge(14, FIRST, x -> {
            line(x);
            x.make("shift 0 30", "stop 3 5 1 0", "stop 3 5 0 0", "stop 33 5 0 0", "stop 2 20 0 0", "stop 2 19 0 0");
            x.make("stop 0 479 50 0", "stop 0 479 50 0", "put 5 0 0", "put 6 0 0");
            x.due(2, "why 0 0 0");
            x.due(NONE, "where");
            x.due(3, "why 1 0 0");
            x.due(0, "where");
            x.due(4, "why 2 0 0");
            x.due(3, "where");
            x.due(4, "why 3 0 0");
            x.due(3, "why 4 0 0");
        });
        edges.edge(14, "A ROUND FITS, if nothing of these is so", x -> {
            x.make("street 0 1 10", "van 50 100120 0", "stop 11 110110 50 0", "stop 21 110110 0 0", "stop 0 120120 0 0");
            x.due(20, "pair 0 0 0 1");
            x.due(0, "why 2 0 2");
            x.due(20, "put 2 0 2");
            x.when(0, 0, 110, 110, 110, 50);
            x.when(0, 1, 110, 110, 110, 0);
            x.when(0, 2, 120, 120, 120, 0);
            x.due(120, "when 0 3 0");
        });
    }

    private static void where() {
        edges.edge(15, "WHERE, of the latest why(); NONE: it could be PUT, or there was none.", x -> {
            x.due(NONE, "where");
            line(x);
            x.make("stop 5 479 0 0", "stop 1 479 0 0");
            x.due(NONE, "where");
            x.due(3, "why 0 0 0");
            x.due(0, "where", "where");
            x.due(0, "why 1 0 0");
            x.due(NONE, "where");
            x.due(3, "why 0 0 0");
            x.due(0, "where");
        });
        edges.edge(15, CHANGES_NOTHING, x -> {
            line(x);
            x.make("stop 1 479 0 0", "stop 5 479 0 0", "put 0 0 0");
            x.due(3, "why 1 0 1");
            x.due(BEYOND, "why 2 0 0", "why 1 1 0", "why 1 0 2");
            x.due(NO, "why 0 0 0");
            x.due(1, "where");
            x.due(NO, "put 1 0 0");
            x.due(1, "where");
            x.due(0, "take 0");
            x.due(1, "where");
        });
        edges.edge(15, "of the latest why()", x -> {
            line(x);
            x.make("stop 1 479 0 0", "stop 5 479 0 0", "put 0 0 0");
            x.due(3, "why 1 0 1");
            x.make("undo", "build", "better 100", "least", "clear", "cost -1", "count 4", "lay 0", "tear");
            x.make("street 0 5 5", "span 1 9", "shift 0 478");
            x.due(1, "where");
        });
    }

    private static void whereOfEach() {
        edges.edge(15, "WHERE, of the latest why()", x -> {
            x.make("van 50 20 0", "street 0 1 10", "stop 0 479 0 0", "put 0 0 0");
            x.make("stop 10 479 0 0", "stop 20 479 0 1", "stop 10 479 50 0", "stop 0 479 1 0", "stop 2 479 0 0");
            x.make("stop 1 479 100 0", "put 3 0 1");
            x.due(1, "why 2 0 2");
            x.due(2, "where", "why 4 0 2");
            x.due(1, "where");
            x.due(3, "why 5 0 1");
            x.due(1, "where");
            x.due(4, "why 6 0 0");
            x.due(3, "where");
        });
    }
}
