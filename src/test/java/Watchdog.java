/** Ends a test that never comes to its end, so that .ci/run fails and does not hang. */
final class Watchdog {
    private static final long MOST_MILLISECONDS = 300_000;

    private Watchdog() {
    }

    static void start() {
        Thread dog = new Thread(Watchdog::bark);
        dog.setDaemon(true);
        dog.start();
    }

    private static void bark() {
        try {
            Thread.sleep(MOST_MILLISECONDS);
        } catch (InterruptedException e) {
            return;
        }
        System.out.println("a call does not come to its end");
        Runtime.getRuntime().halt(1);
    }
}
