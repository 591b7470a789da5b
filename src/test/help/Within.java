import java.lang.reflect.InvocationTargetException;

// Runs a test's main, and fails if it throws or has not ended within so many seconds: no call may fail to end.
final class Within {
  private Within() {}

  public static void main(String[] args) throws InterruptedException {
    Thread test = new Thread(() -> run(args[1]));
    test.setDaemon(true);
    test.start();
    test.join(1000L * Integer.parseInt(args[0]));
    if (test.isAlive()) fail(args[1] + " has not ended within " + args[0] + " seconds");
  }

  private static void run(String name) {
    try {
      Class.forName(name).getMethod("main", String[].class).invoke(null, (Object) new String[0]);
    } catch (InvocationTargetException e) {
      e.getCause().printStackTrace(System.out);
      fail(name + " threw");
    } catch (ReflectiveOperationException e) {
      fail(name + " could not be run: " + e);
    }
  }

  private static void fail(String why) {
    System.out.println(why);
    System.exit(1);
  }
}
