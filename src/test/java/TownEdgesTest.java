import java.io.IOException;

/** The edges of promises 1 to 4: a new object, streets, slow hours, ways. */
public final class TownEdgesTest {
    private static final int NONE = Edges.NONE, MISSING = Edges.MISSING, BEYOND = Edges.BEYOND, NO = Edges.NO;

    private static Edges edges;

    public static void main(String[] args) throws IOException {
        edges = new Edges("TownEdgesTest");
        newObject();
        callsOfAnObject();
        street();
        streetRefused();
        slow();
        slowRefused();
        way();
        hours();
        lastMinute();
        wayRefused();
        edges.end(1, 4);
    }

    /** Stop 0 at place 1, which a van is sent to at minute 0, 10 minutes off: begins at 10, is back at 20. */
    private static void one(Run x) {
        x.make("street 0 1 10", "van 9 479 0", "stop 1 479 1 0", "put 0 0 0");
    }

    private static void newObject() {
        edges.edge(1, "No STREETS", x -> {
            for (int a = 0; a < 8; a++) {
                for (int b = 0; b < 8; b++) x.due(MISSING, "slow " + a + " " + b + " " + b + " 5");
            }
        });
        edges.edge(1, "No STREETS, STOPS, VANS.", x -> {
            for (int a = 0; a < 8; a++) {
                for (int b = 0; b < 8; b++) x.due(a == b ? 479 : NONE, "way " + a + " " + b + " 479");
            }
            x.due(0, "count 0", "count 1", "count 2", "count 3", "count 4", "count 5", "count 6");
            x.due(BEYOND, "look 0 0", "span 0 0", "price 0 1", "take 0", "round 0 -1", "when 0 0 0", "cost 0", "shift 0 0");
            x.due(BEYOND, "why 0 0 0", "put 0 0 0", "pair 0 0 0 0", "move 0 0 0", "cross 0 0 1 0", "turn 0 0 1", "lay 0");
        });
        edges.edge(1, "`VanRounds()`: No STREETS, STOPS, VANS.", x -> {
            x.due(0, "cost -1", "build", "better 100", "least", "clear", "tear", "count 4");
            x.due(NONE, "where");
            x.due(MISSING, "undo", "row 0", "copy 0 0 0");
        });
        edges.edge(1, "there is none (at first)", x -> x.due(0, "street 0 7 1", "street 7 6 99", "street 3 4 0"));
    }

    private static void callsOfAnObject() {
        edges.edge(1, "An object is used for at most 512 calls after it has been made", x -> {
            x.make("street 0 1 5", "van 9 479 0", "stop 1 479 1 0");
            for (int k = 0; k < 127; k++) {
                x.due(10, "put 0 0 0");
                x.due(NO, "put 0 0 0");
                x.due(0, "take 0");
                x.due(BEYOND, "take 1");
            }
            x.due(127, "status -7");
        });
        edges.edge(1, "An object is used for at most 512 calls", x -> {
            for (int k = 0; k < 511; k++) x.due(MISSING, "undo");
            x.due(511, "status -2");
        });
        edges.edge(2, "An object is used for at most 512 calls", x -> {
            for (int k = 0; k < 256; k++) {
                x.due(k == 0 ? 0 : 1, "street 0 1 " + (k % 99 + 1));
                x.due(255 - k + k % 99 + 1, "way 1 0 " + (255 - k));
            }
        });
    }

    private static void street() {
        edges.edge(2, "PLACES 0 .. 7", x -> {
            x.due(0, "street 0 1 5", "street 7 0 5", "street 6 7 5");
            x.due(1, "street 1 0 5", "street 0 7 5", "street 7 6 5");
            x.due(BEYOND, "street -1 0 5", "street 8 0 5", "street 0 -1 5", "street 0 8 5", "street 8 7 5", "street 7 8 5");
            x.due(BEYOND, "street LOW 0 5", "street HIGH 0 5", "street 0 LOW 5", "street 0 HIGH 5", "street -8 0 5");
        });
        edges.edge(2, "1 .. 99 minutes", x -> {
            x.due(0, "street 0 1 1");
            x.due(1, "way 0 1 0");
            x.due(1, "street 0 1 99");
            x.due(99, "way 0 1 0");
            x.due(NO, "street 0 1 100", "street 0 1 -1", "street 0 1 LOW", "street 0 1 HIGH", "street 0 1 -99", "street 2 3 100");
            x.due(99, "way 0 1 0");
            x.due(NONE, "way 2 3 0");
        });
        edges.edge(2, "(0: there is none)", x -> {
            x.due(0, "street 0 1 0", "street 0 1 7");
            x.due(1, "street 0 1 0");
            x.due(NONE, "way 0 1 0", "way 1 0 0");
            x.due(MISSING, "slow 0 1 0 5", "slow 1 0 7 5");
            x.due(0, "street 1 0 0", "street 1 0 7");
        });
        edges.edge(2, "1 if there was one, else 0", x -> {
            x.due(0, "street 2 5 9");
            x.due(1, "street 2 5 9", "street 5 2 8", "street 5 2 0");
            x.due(0, "street 2 5 0", "street 5 2 9");
        });
        edges.edge(2, "both ways", x -> {
            x.due(0, "street 5 2 9");
            x.due(109, "way 2 5 100", "way 5 2 100");
            x.due(9, "slow 2 5 3 4");
            x.due(4, "slow 5 2 3 4");
        });
        edges.edge(2, "A STREET takes m minutes in all HOURS", x -> {
            x.make("street 0 1 7", "slow 0 1 0 20", "slow 1 0 7 30", "slow 0 1 4 1");
            x.due(1, "street 1 0 50");
            for (int hour = 0; hour < 8; hour++) x.due(50, "slow 0 1 " + hour + " 50");
        });
        edges.edge(2, "PLACE 0 is THE YARD", x -> {
            one(x);
            x.make("street 1 2 3", "street 1 0 10");
            x.when(0, 0, 10, 10, 10, 0);
            x.due(20, "when 0 1 0");
        });
    }

    private static void streetRefused() {
        edges.edge(2, "BEYOND (PLACES), NO: m, a PLACE and itself", x -> {
            x.due(BEYOND, "street 8 0 100", "street 0 8 -1", "street 8 8 5", "street -1 -1 5", "street -1 -1 100");
            x.due(NO, "street 0 0 100", "street 7 7 -1");
        });
        edges.edge(2, "a PLACE and itself", x -> {
            for (int a = 0; a < 8; a++) x.due(NO, "street " + a + " " + a + " 5", "street " + a + " " + a + " 0");
        });
        edges.edge(2, "BEYOND (PLACES), NO: m, a PLACE and itself, a ROUND wouldn't FIT.", x -> {
            one(x);
            x.due(BEYOND, "street 0 8 0", "street -1 1 0");
            x.due(NO, "street 0 1 0");
            x.due(10, "way 0 1 0");
        });
        edges.edge(2, "a ROUND wouldn't FIT", x -> {
            one(x);
            x.make("span 0 12");
            x.due(1, "street 0 1 12");
            x.due(NO, "street 0 1 13", "street 1 0 0", "street 1 0 99");
            x.due(12, "way 0 1 0", "slow 0 1 7 12");
        });
        edges.edge(2, "Such a call is refused (NO), if some ROUND wouldn't FIT any more.", x -> {
            one(x);
            x.make("shift 0 30");
            x.due(1, "street 0 1 15");
            x.due(30, "when 0 1 0");
            x.due(NO, "street 0 1 16");
            x.make("van 9 479 0", "stop 2 40 0 0", "street 0 2 40", "put 1 1 0");
            x.due(NO, "street 2 0 41", "street 0 2 0");
            x.due(80, "when 1 1 0");
        });
        edges.edge(2, "A refused call changes nothing but status().", x -> {
            one(x);
            x.make("slow 0 1 1 33", "slow 0 1 7 44", "take 0", "put 0 0 0");
            x.due(NO, "street 0 1 0", "street 1 0 0", "street 0 0 4", "street 0 1 100");
            x.due(BEYOND, "street 0 8 4");
            x.due(2, "count 4");
            x.due(33, "slow 1 0 1 33");
            x.due(44, "slow 1 0 7 44");
        });
        edges.edge(2, "a call that tells of STREETS, STOPS, VANS (street() to shift()) and isn't refused leaves none", x -> {
            one(x);
            x.due(1, "count 4", "street 0 1 10");
            x.due(0, "count 4");
            x.due(MISSING, "undo");
            x.make("take 0");
            x.due(0, "street 5 6 0");
            x.due(MISSING, "undo");
        });
    }

    private static void slow() {
        edges.edge(3, "8 HOURS of 60", x -> {
            x.make("street 0 1 9", "slow 0 1 0 1", "slow 0 1 6 3", "slow 0 1 7 20");
            x.due(1, "way 0 1 0");
            x.due(60, "way 0 1 59");
            x.due(69, "way 0 1 60");
            x.due(422, "way 0 1 419");
            x.due(440, "way 0 1 420");
            x.due(499, "way 0 1 479");
        });
        edges.edge(3, "A STREET takes m minutes in an HOUR: what it took.", x -> {
            x.make("street 3 4 50");
            for (int hour = 0; hour < 8; hour++) x.due(50, "slow 3 4 " + hour + " " + (hour + 1));
            for (int hour = 0; hour < 8; hour++) x.due(hour + 1, "slow 4 3 " + hour + " 50");
        });
        edges.edge(3, "1 .. 99 minutes", x -> {
            x.make("street 0 1 50");
            x.due(50, "slow 0 1 3 1");
            x.due(1, "slow 0 1 3 99");
            x.due(NO, "slow 0 1 3 0", "slow 0 1 3 100", "slow 0 1 3 -1", "slow 0 1 3 LOW", "slow 0 1 3 HIGH");
            x.due(99, "slow 0 1 3 99");
        });
        edges.edge(3, "both ways", x -> {
            x.make("street 0 1 50", "slow 1 0 2 5");
            x.due(125, "way 0 1 120", "way 1 0 120");
            x.due(5, "slow 0 1 2 6");
        });
    }

    private static void slowRefused() {
        edges.edge(3, "BEYOND (PLACES, HOUR)", x -> {
            x.make("street 0 7 50");
            x.due(50, "slow 0 7 0 9", "slow 7 0 7 9");
            x.due(BEYOND, "slow 0 7 -1 9", "slow 0 7 8 9", "slow 0 7 LOW 9", "slow 0 7 HIGH 9");
            x.due(BEYOND, "slow -1 7 0 9", "slow 8 7 0 9", "slow 0 -1 0 9", "slow 0 8 0 9", "slow HIGH 7 0 9", "slow 0 LOW 0 9");
        });
        edges.edge(3, "MISSING: there is none", x -> {
            x.due(MISSING, "slow 0 1 0 9", "slow 4 4 0 9", "slow 0 0 7 1");
            x.make("street 0 1 9", "street 0 1 0");
            x.due(MISSING, "slow 0 1 0 9", "slow 1 0 7 9");
        });
        edges.edge(3, "BEYOND (PLACES, HOUR), MISSING: there is none; NO.", x -> {
            x.due(BEYOND, "slow 8 0 0 0", "slow 0 8 0 100", "slow 0 1 8 0", "slow 0 1 -1 100", "slow 2 2 8 5");
            x.due(MISSING, "slow 0 1 0 0", "slow 0 1 0 100", "slow 3 3 3 0");
            one(x);
            x.due(BEYOND, "slow 0 1 8 0", "slow 0 -1 0 0");
            x.due(MISSING, "slow 0 2 0 0");
            x.due(NO, "slow 0 1 0 0");
        });
        edges.edge(3, "Such a call is refused (NO), if some ROUND wouldn't FIT any more.", x -> {
            one(x);
            x.make("span 0 12", "shift 0 25");
            x.due(10, "slow 0 1 0 12");
            x.due(NO, "slow 0 1 0 13");
            x.due(24, "when 0 1 0");
            x.make("shift 0 80", "span 0 60479");
            x.due(10, "slow 1 0 1 20");
            x.due(NO, "slow 1 0 1 21", "slow 0 1 1 99", "slow 0 1 0 61");
            x.due(80, "when 0 1 0");
            x.due(12, "slow 0 1 0 60");
            x.due(10, "slow 0 1 2 99");
        });
        edges.edge(3, "A refused call changes nothing but status().", x -> {
            one(x);
            x.make("span 0 10", "take 0", "put 0 0 0");
            x.due(NO, "slow 0 1 0 11", "slow 0 1 0 0");
            x.due(MISSING, "slow 0 2 0 11");
            x.due(BEYOND, "slow 0 1 8 11");
            x.due(2, "count 4");
            x.due(10, "way 0 1 0", "way 1 0 0", "slow 0 1 0 10");
        });
        edges.edge(3, "and isn't refused leaves none", x -> {
            one(x);
            x.due(10, "slow 0 1 7 10");
            x.due(0, "count 4");
            x.due(MISSING, "undo");
        });
    }

    private static void way() {
        edges.edge(4, "When one comes by a WAY that sets out at a minute (0 .. 479)", x -> {
            x.make("street 0 1 9");
            x.due(9, "way 0 1 0");
            x.due(488, "way 0 1 479", "way 1 0 479");
            x.due(BEYOND, "way 0 1 -1", "way 0 1 480", "way 0 1 LOW", "way 0 1 HIGH", "way 1 0 480");
        });
        edges.edge(4, "NONE: there is none", x -> {
            x.make("street 0 1 9", "street 2 3 9");
            x.due(NONE, "way 0 2 0", "way 3 1 479", "way 5 6 0");
            x.make("street 1 2 9");
            x.due(27, "way 0 3 0");
            x.make("street 1 2 0");
            x.due(NONE, "way 0 3 0", "way 3 0 0");
            x.due(0, "status -2", "status -3", "status -7");
        });
        edges.edge(4, "from a PLACE to itself over none, at t", x -> {
            for (int a = 0; a < 8; a++) {
                x.due(0, "way " + a + " " + a + " 0");
                x.due(479, "way " + a + " " + a + " 479");
                x.due(BEYOND, "way " + a + " " + a + " 480", "way " + a + " " + a + " -1");
            }
            x.make("street 0 1 1");
            x.due(7, "way 0 0 7", "way 1 1 7");
        });
        edges.edge(4, "over STREETS, one after the other, so as to come as early as can be", x -> {
            x.make("street 0 7 99", "street 7 3 10", "street 3 5 10", "street 5 1 10", "street 1 6 10", "street 6 2 10");
            x.make("street 2 4 10", "street 0 4 30");
            x.due(90, "way 0 7 0", "way 7 0 0");
            x.due(80, "way 0 3 0");
            x.due(30, "way 0 4 0");
            x.due(70, "way 0 5 0");
            x.make("street 0 4 0");
            x.due(159, "way 0 4 0", "way 4 0 0");
            x.make("street 0 5 19");
            x.due(39, "way 0 7 0");
            x.make("street 0 7 39");
            x.due(39, "way 0 7 0");
            x.make("street 0 7 38");
            x.due(38, "way 0 7 0");
        });
        edges.edge(4, "A WAY at minute t", x -> {
            x.make("street 0 1 9", "street 1 2 9", "slow 1 2 0 40", "street 0 2 30");
            x.due(30, "way 0 2 0");
            x.due(69, "way 0 2 50");
            x.due(69, "way 0 2 51");
            x.due(70, "way 0 2 52");
            x.make("slow 0 2 1 1");
            x.due(61, "way 0 2 50", "way 0 2 59", "way 0 2 60");
            x.due(62, "way 0 2 61");
        });
    }

    private static void hours() {
        edges.edge(4, "the least of t + what it takes in t's HOUR", x -> {
            x.make("street 0 1 30", "slow 0 1 2 5", "slow 0 1 0 1");
            x.due(1, "way 0 1 0");
            x.due(60, "way 0 1 59");
            x.due(90, "way 0 1 60");
            x.due(124, "way 0 1 94");
            x.due(125, "way 0 1 95", "way 0 1 96", "way 0 1 119", "way 0 1 120");
            x.due(126, "way 0 1 121");
            x.due(184, "way 0 1 179");
            x.due(210, "way 0 1 180");
        });
        edges.edge(4, "for each later HOUR, its first minute + what it takes then", x -> {
            x.make("street 0 1 99", "slow 0 1 1 90", "slow 0 1 2 20", "slow 0 1 3 1");
            x.due(139, "way 0 1 40");
            x.due(140, "way 0 1 41", "way 0 1 59", "way 0 1 60", "way 0 1 119", "way 0 1 120");
            x.due(181, "way 0 1 161", "way 0 1 179", "way 0 1 180");
            x.due(182, "way 0 1 181");
        });
        edges.edge(4, "streets that are slow by the hour and never overtaken on", x -> {
            x.make("street 0 1 99", "slow 0 1 7 1", "slow 0 1 3 2");
            int[][] want = {{130, 182}, {179, 182}, {180, 182}, {321, 420}, {322, 421}, {323, 421}, {419, 421}, {420, 421}};
            for (int[] pair : want) x.due(pair[1], "way 0 1 " + pair[0]);
        });
        edges.edge(4, "for each later HOUR", x -> {
            x.make("street 0 1 80", "slow 0 1 7 79");
            x.due(498, "way 0 1 418");
            x.due(499, "way 0 1 419", "way 0 1 420");
            x.due(558, "way 0 1 479");
        });
    }

    private static void lastMinute() {
        edges.edge(4, "(From minute 480 on nobody sets out on any.)", x -> {
            x.make("street 0 1 10", "street 1 2 10");
            x.due(489, "way 0 2 469");
            x.due(NONE, "way 0 2 470", "way 0 2 479");
            x.due(480, "way 0 1 470");
            x.due(489, "way 0 1 479");
            x.make("street 0 2 99");
            x.due(489, "way 0 2 469");
            x.due(569, "way 0 2 470");
            x.due(578, "way 0 2 479");
        });
        edges.edge(4, "MINUTES are 0 .. 479", x -> {
            x.make("street 0 1 99", "slow 0 1 7 98");
            x.due(99, "way 0 1 0");
            x.due(577, "way 0 1 479");
        });
    }

    private static void wayRefused() {
        edges.edge(4, "BEYOND (PLACES, minute).", x -> {
            x.make("street 0 7 9");
            x.due(BEYOND, "way -1 7 0", "way 8 7 0", "way 0 -1 0", "way 0 8 0", "way LOW 7 0", "way 0 HIGH 0", "way 8 8 0");
            x.due(BEYOND, "way -1 -1 0", "way 0 7 -1", "way 0 7 480", "way 0 3 480", "way 8 8 480", "way LOW LOW LOW");
            x.due(9, "way 0 7 0", "way 7 0 0");
        });
        edges.edge(4, "a call that tells of STREETS, STOPS, VANS", x -> {
            one(x);
            x.due(10, "way 0 1 0");
            x.due(BEYOND, "way 0 1 480");
            x.due(1, "count 4");
            x.due(0, "undo");
        });
    }
}
