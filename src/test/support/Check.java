/** Counts the answers that were looked at, and prints those that are not as due. */
final class Check {
  private String about = "";
  private int looked;
  private int wrong;

  void on(String promise) {
    about = promise;
  }

  void due(String call, long got, long want) {
    looked++;
    if (got != want) {
      wrong++;
      System.out.println(about + ": " + call + " answered " + got + ", due is " + want);
    }
  }

  void finish() {
    System.out.println(looked + " answers looked at, " + wrong + " not as due");
    if (wrong != 0 || looked == 0) {
      System.exit(1);
    }
  }
}
