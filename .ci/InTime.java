/** Runs the main method of a test, and ends it as failed if it is not done in time. */
public final class InTime {
    private static final long SECONDS = 120;

    public static void main(String[] args) throws Exception {
        Thread watch = new Thread(InTime::endLate);
        watch.setDaemon(true);
        watch.start();
        Class.forName(args[0]).getMethod("main", String[].class).invoke(null, (Object) new String[0]);
    }

    private static void endLate() {
        try {
            Thread.sleep(SECONDS * 1000);
        } catch (InterruptedException e) {
            return;
        }
        System.out.println("not done after " + SECONDS + " seconds: a call may never end");
        System.out.flush();
        // exit() would wait for hooks; what hangs here is not to be waited for.
        Runtime.getRuntime().halt(1);
    }
}
