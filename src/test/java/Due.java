/** Counts the answers that are not as due, and prints them. */
final class Due {
    private static final int SECONDS = 240;

    private int wrong = 0;
    private int asked = 0;

    Due() {
        Thread watch = new Thread(Due::endLate, "watch");
        watch.setDaemon(true);
        watch.start();
    }

    /** A call that fails to end is a fault like another one: without this the whole run would hang. */
    private static void endLate() {
        try {
            Thread.sleep(1000L * SECONDS);
        } catch (InterruptedException e) {
            return;
        }
        System.out.println("a call did not end in " + SECONDS + " seconds");
        Runtime.getRuntime().halt(1);
    }

    void is(String call, long got, long want) {
        asked++;
        if (got != want) {
            wrong++;
            if (wrong <= 50) {
                System.out.println(call + " answered " + got + ", due is " + want);
            }
        }
    }

    void holds(String what, boolean is) {
        is(what, is ? 1 : 0, 1);
    }

    void close(String name) {
        System.out.println(name + ": " + asked + " answers, " + wrong + " not as due");
        if (wrong != 0 || asked == 0) {
            System.exit(1);
        }
    }
}
