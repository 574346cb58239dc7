import java.util.ArrayList;
import java.util.List;
import java.util.Random;

/** Random runs, each of at most 512 calls on a new object, every answer held against the oracle's. */
public final class RandomRunsTest {
    private static final int MOST_CALLS = 512;

    private final Random random;
    private final VanRounds mine = new VanRounds();
    private final Oracle due = new Oracle();
    private final List<Call> made = new ArrayList<>();
    private final List<Integer> answers = new ArrayList<>();
    private String wrong = null;

    private int places, slowest;
    private boolean wide;

    private RandomRunsTest(long seed) {
        random = new Random(seed);
    }

    public static void main(String[] args) {
        Watchdog.start("RandomRunsTest");
        int runs = args.length > 0 ? Integer.parseInt(args[0]) : 1500;
        int bad = 0;
        for (long seed = 1; seed <= runs && bad < 3; seed++) {
            RandomRunsTest run = new RandomRunsTest(seed);
            run.go((int) (seed % 6));
            if (run.wrong == null) continue;
            bad++;
            System.out.println("run of seed " + seed + ", " + run.made.size() + " calls: " + run.wrong);
            System.out.println("  " + run.made);
        }
        System.out.println(bad == 0 ? runs + " random runs are as due" : "random runs are not as due");
        if (bad != 0) System.exit(1);
    }

    private void call(String name, int... args) {
        if (wrong != null || made.size() >= MOST_CALLS) return;
        Call call = new Call(name, args);
        made.add(call);
        int want = call.on(due);
        int got;
        try {
            got = call.on(mine);
        } catch (RuntimeException thrown) {
            wrong = call + " threw " + thrown;
            return;
        }
        answers.add(got);
        if (got != want) wrong = call + " answered " + got + ", due is " + want;
    }

    private void go(int form) {
        places = 2 + random.nextInt(7);
        slowest = random.nextBoolean() ? 12 : 99;
        wide = random.nextInt(3) > 0;
        town();
        if (form == 0) few();
        else many();
        if (form == 1) inOut();
        while (wrong == null && made.size() < 400) {
            if (form == 2 && random.nextInt(3) > 0) change();
            else if (form == 3 && random.nextInt(6) == 0) manyUndos();
            else if (random.nextInt(12) == 0) wild();
            else any();
        }
        showAll();
        while (wrong == null && made.size() < MOST_CALLS) call("undo");
        twin();
    }

    /** An object that never gets the refused calls gives the same answers to all others but status(). */
    private void twin() {
        VanRounds twin = new VanRounds();
        for (int k = 0; wrong == null && k < made.size(); k++) {
            Call call = made.get(k);
            int want = answers.get(k);
            if (want <= -2 && want >= -8 || call.name().equals("status")) continue;
            int got = call.on(twin);
            if (got != want) wrong = call + ", call " + (k + 1) + ", answered " + got + " where no call was refused";
        }
    }

    // ---- how a run begins

    private void town() {
        for (int a = 0; a < places; a++) {
            for (int b = a + 1; b < places; b++) {
                if (random.nextInt(3) == 0) call("street", a, b, 1 + random.nextInt(slowest));
            }
            if (a > 0) call("street", random.nextInt(a), a, 1 + random.nextInt(slowest));
        }
        for (int k = random.nextInt(20); k > 0; k--) slowSome();
    }

    private void few() {
        for (int v = 1 + random.nextInt(2); v > 0; v--) newVan();
        for (int s = 2 + random.nextInt(4); s > 0; s--) newStop();
    }

    private void many() {
        for (int v = 1 + random.nextInt(3); v > 0; v--) newVan();
        for (int s = 4 + random.nextInt(9); s > 0; s--) newStop();
    }

    private void slowSome() {
        call("slow", place(), place(), random.nextInt(8), 1 + random.nextInt(99));
    }

    private int span(boolean broad) {
        int from = broad ? random.nextInt(60) : random.nextInt(470);
        int to = broad ? 400 + random.nextInt(80) : from + random.nextInt(480 - from);
        return 1000 * from + to;
    }

    private void newVan() {
        int load = random.nextBoolean() ? 200 : 1 + random.nextInt(120);
        int fee = random.nextBoolean() ? 0 : random.nextInt(501);
        call("van", load, span(wide || random.nextInt(4) > 0), fee);
    }

    private void newStop() {
        int kind = random.nextInt(5);
        int fetch = kind == 2 ? freeFetch() : random.nextInt(12);
        int serve = random.nextInt(random.nextBoolean() ? 8 : 61);
        int amount = random.nextInt(random.nextBoolean() ? 10 : 51);
        boolean broad = wide && random.nextInt(4) > 0;
        call("stop", 10 * kind + place(), span(broad), 100 * serve + amount, fetch);
    }

    private int freeFetch() {
        for (int tries = 0; tries < 30; tries++) {
            int s = stop();
            if (due.look(s, 0) == 1 && due.look(s, 4) == -1) return s;
        }
        return stop();
    }

    // ---- numbers, mostly of what there is

    private int place() {
        return random.nextInt(places);
    }

    private int stop() {
        int n = due.count(0);
        return random.nextInt(40) == 0 ? odd(n) : random.nextInt(Math.max(n, 1));
    }

    private int van() {
        int n = due.count(1);
        return random.nextInt(40) == 0 ? odd(n) : random.nextInt(Math.max(n, 1));
    }

    private int spot(int van, int more) {
        int n = Math.max(Math.max(due.round(van, -1), 0) + more, 0);
        return random.nextInt(20) == 0 ? odd(n) : random.nextInt(n + 1);
    }

    private int odd(int n) {
        int[] odd = {-1, -2, n, n + 1, 0, Integer.MAX_VALUE, Integer.MIN_VALUE, n - 1};
        return odd[random.nextInt(odd.length)];
    }

    // ---- calls

    private void any() {
        if (random.nextInt(3) == 0) change();
        else if (random.nextInt(2) == 0) ask();
        else if (random.nextInt(3) > 0) big();
        else tell();
    }

    private void tell() {
        switch (random.nextInt(8)) {
            case 0 -> call("street", place(), place(), random.nextInt(100));
            case 1, 2 -> slowSome();
            case 3 -> call("span", stop(), span(random.nextBoolean()));
            case 4 -> call("price", stop(), random.nextInt(11));
            case 5 -> call("shift", van(), span(random.nextInt(3) > 0));
            case 6 -> newStop();
            default -> newVan();
        }
    }

    private void ask() {
        int v = van();
        switch (random.nextInt(13)) {
            case 0 -> call("way", place(), place(), random.nextInt(480));
            case 1 -> call("look", stop(), random.nextInt(8));
            case 2 -> call("round", v, spot(v, 0) - random.nextInt(2));
            case 3 -> call("when", v, spot(v, 0), random.nextInt(4));
            case 4 -> call("cost", random.nextInt(5) - 1);
            case 5 -> call("where");
            case 6 -> call("count", random.nextInt(8));
            case 7 -> call("lay", v);
            case 8 -> call("row", random.nextInt(8) - 1);
            case 9 -> call("copy", random.nextInt(6) - 1, random.nextInt(6) - 1, random.nextInt(6) - 1);
            case 10 -> call("tear");
            case 11 -> call("status", -random.nextInt(11));
            default -> {
                call("why", outStop(), v, spot(v, 0));
                call("where");
            }
        }
    }

    private int outStop() {
        for (int tries = 0; tries < 12; tries++) {
            int s = stop();
            if (due.look(s, 5) == -1) return s;
        }
        return stop();
    }

    private int inStop() {
        for (int tries = 0; tries < 12; tries++) {
            int s = stop();
            if (due.look(s, 5) >= 0) return s;
        }
        return stop();
    }

    private void change() {
        int v = van();
        int w = van();
        switch (random.nextInt(7)) {
            case 0, 1 -> call("put", outStop(), v, spot(v, 0));
            case 2 -> {
                int i = spot(v, 0);
                call("pair", fetchOut(), v, i, random.nextBoolean() ? i + 1 : spot(v, 1));
            }
            case 3 -> call("take", inStop());
            case 4 -> call("move", inStop(), v, spot(v, 0));
            case 5 -> call("cross", v, spot(v, 0), w, spot(w, 0));
            default -> {
                int i = spot(v, -1);
                call("turn", v, i, random.nextBoolean() ? i + 1 : spot(v, -1));
            }
        }
    }

    private int fetchOut() {
        for (int tries = 0; tries < 30; tries++) {
            int s = stop();
            if (due.look(s, 0) == 1 && due.look(s, 4) >= 0 && due.look(s, 5) == -1) return s;
        }
        return outStop();
    }

    private void big() {
        switch (random.nextInt(8)) {
            case 0 -> call("build");
            case 1 -> call("better", random.nextInt(4));
            case 2 -> call("better", 100);
            case 3 -> call("least");
            case 4 -> call("undo");
            case 5 -> call("clear");
            case 6 -> call("count", 4);
            default -> call("cost", -1);
        }
    }

    private void inOut() {
        for (int k = 0; k < 60; k++) change();
        for (int k = 0; k < 24; k++) call("undo");
    }

    private void manyUndos() {
        for (int k = random.nextInt(30); k > 0; k--) change();
        call("count", 4);
        for (int k = random.nextInt(23); k > 0; k--) call("undo");
    }

    /** A call with numbers that may be anything. */
    private void wild() {
        int[] edges = {
            Integer.MIN_VALUE, -1000, -9, -8, -7, -3, -2, -1, 0, 1, 2, 3, 4, 5, 7, 8, 9, 12, 20, 47, 48, 50, 58, 59, 60,
            99, 100, 101, 199, 200, 201, 479, 480, 481, 500, 501, 5999, 6000, 6050, 6051, 6099, 6100, 479479, 479480,
            480479, 480000, 200100, Integer.MAX_VALUE};
        int[] args = new int[4];
        for (int k = 0; k < 4; k++) args[k] = edges[random.nextInt(edges.length)];
        if (random.nextBoolean()) args[0] = random.nextInt(4);
        if (random.nextBoolean()) args[1] = random.nextInt(4);
        if (random.nextBoolean()) args[2] = random.nextInt(8);
        call(Call.NAMES[random.nextInt(Call.NAMES.length)], args);
    }

    private void showAll() {
        for (int what = 0; what <= 6; what++) call("count", what);
        for (int v = 0; v < due.count(1); v++) {
            int n = due.round(v, -1);
            call("round", v, -1);
            call("cost", v);
            for (int i = 0; i < n; i++) {
                call("round", v, i);
                for (int what = 0; what < 4; what++) call("when", v, i, what);
            }
            call("when", v, n, 0);
        }
        for (int by = -8; by <= -2; by++) call("status", by);
    }
}
