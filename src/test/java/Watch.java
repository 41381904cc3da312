/** No call may fail to end: behind so many seconds the test that hangs ends, and has failed. */
final class Watch {
  private static final int SECONDS = 900;

  private Watch() {
  }

  static void over(String test) {
    Thread watch = new Thread(() -> {
      try {
        Thread.sleep(SECONDS * 1000L);
      } catch (InterruptedException woken) {
        return;
      }
      System.out.println(test + " has not come to an end in " + SECONDS + " seconds");
      Runtime.getRuntime().halt(1);
    });
    watch.setDaemon(true);
    watch.start();
  }
}
