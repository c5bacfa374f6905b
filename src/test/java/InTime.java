/** Runs the main method of a class; one that goes on for ever ends with code 1, as a call that never ends is wrong. */
public final class InTime {
    private static final long MOST_SECONDS = 300;

    public static void main(String[] args) throws ReflectiveOperationException {
        Thread watch = new Thread(() -> endIfLate(args[0]));
        watch.setDaemon(true);
        watch.start();
        Class.forName(args[0]).getMethod("main", String[].class).invoke(null, (Object) new String[0]);
    }

    private static void endIfLate(String name) {
        try {
            Thread.sleep(1000 * MOST_SECONDS);
        } catch (InterruptedException e) {
            return;
        }
        System.out.println(name + " has not ended in " + MOST_SECONDS + " seconds");
        Runtime.getRuntime().halt(1);
    }
}
