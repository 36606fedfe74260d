/**
 * Runs the main method of a test as java itself would, but not for ever: a test that has not come to its end within so
 * many seconds is named, with the calls that stood open in it, and ends with exit code 3.
 */
public final class Watched {
    static final int STOOD_STILL = 3;

    private Watched() {
    }

    public static void main(String[] args) throws ReflectiveOperationException {
        int seconds = Integer.parseInt(args[0]);
        String test = args[1];
        Thread tested = Thread.currentThread();
        Thread watch = new Thread(() -> endAfter(seconds, test, tested));
        watch.setDaemon(true);
        watch.start();
        Class.forName(test).getMethod("main", String[].class).invoke(null, (Object) new String[0]);
    }

    private static void endAfter(int seconds, String test, Thread tested) {
        try {
            Thread.sleep(1000L * seconds);
        } catch (InterruptedException e) {
            return;
        }
        System.out.println(test + " did not come to its end within " + seconds + " seconds; it stood in");
        for (StackTraceElement call : tested.getStackTrace()) {
            System.out.println("    " + call);
        }
        System.out.flush();
        Runtime.getRuntime().halt(STOOD_STILL);
    }
}
