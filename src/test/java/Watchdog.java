/** Ends a test that never would: a call that fails to end is a fault like any other. */
final class Watchdog {
    private Watchdog() {
    }

    static void start(String test) {
        Thread watch = new Thread(() -> {
            try {
                Thread.sleep(600_000);
            } catch (InterruptedException ended) {
                return;
            }
            System.out.println(test + " takes too long: some call fails to end");
            Runtime.getRuntime().halt(1);
        });
        watch.setDaemon(true);
        watch.start();
    }
}
