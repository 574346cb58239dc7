import java.util.ArrayList;
import java.util.List;

/** All that calls can show of an object but status(), in views of which each one is some calls long. */
final class Views {
    static final int COUNT = 4;
    static final int MOST_CALLS = 250;

    private static final String[] LAYS = {"lay 0", "row 0", "lay 1", "row 0", "lay 2", "row 0"};

    private final VanRounds x;
    private final List<String> seen = new ArrayList<>();

    private Views(VanRounds x) {
        this.x = x;
    }

    static List<String> of(VanRounds x, int view) {
        Views views = new Views(x);
        if (view == 0) views.office();
        if (view == 1) views.past();
        if (view == 2) views.streets();
        if (view == 3) views.told();
        if (views.seen.size() > MOST_CALLS) throw new IllegalStateException("a view of " + views.seen.size() + " calls");
        return views.seen;
    }

    private int see(String text) {
        Call call = Call.of(text);
        int got = call.on(x);
        seen.add(call + " = " + got);
        return got;
    }

    private void rounds(boolean times) {
        for (int van = 0; van < 3; van++) {
            int size = see("round " + van + " -1");
            for (int i = 0; i < size; i++) {
                see("round " + van + " " + i);
                for (int what = 0; times && what < 4; what++) see("when " + van + " " + i + " " + what);
            }
            if (times) see("when " + van + " " + size + " 0");
        }
    }

    private void office() {
        see("where");
        for (int what = 0; what <= 6; what++) see("count " + what);
        int size = 0;
        while (see("row " + size) >= 0) size++;
        for (int van = -1; van < 3; van++) see("cost " + van);
        rounds(true);
        for (int stop = 0; stop < 12; stop++) {
            for (int what = 0; what <= 6; what++) see("look " + stop + " " + what);
        }
        for (String text : LAYS) see(text);
    }

    private void past() {
        for (int back = 0; back < 21; back++) {
            if (see("undo") < 0) break;
            see("cost -1");
            for (int van = 0; van < 3; van++) see("round " + van + " -1");
            for (int van = 0; van < 3; van++) see("round " + van + " 0");
        }
        rounds(false);
        see("count 4");
    }

    /** An hour of a street is seen by telling it anew, which is refused nowhere as all rounds are empty. */
    private void streets() {
        see("clear");
        for (int a = 0; a < 8; a++) {
            for (int b = a + 1; b < 8; b++) {
                for (int hour = 0; hour < 8; hour++) {
                    String street = hour % 2 == 0 ? a + " " + b : b + " " + a;
                    if (see("slow " + street + " " + hour + " 50") < 0) break;
                }
            }
        }
    }

    /** What was told of stops and vans: spans, prices and shifts by telling them anew, the rest by a plan that is built. */
    private void told() {
        see("clear");
        for (int stop = 0; stop < 12; stop++) {
            see("span " + stop + " 479");
            see("price " + stop + " 5");
        }
        for (int van = 0; van < 3; van++) see("shift " + van + " 479");
        for (int van = 0; van < 3; van++) {
            for (int stop = 0; stop < 12; stop++) see("why " + stop + " " + van + " 0");
        }
        see("build");
        for (int van = -1; van < 3; van++) see("cost " + van);
        rounds(false);
        see("stop 0 479 50 0");
        see("van 9 479 9");
    }
}
