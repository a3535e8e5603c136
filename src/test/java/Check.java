/** Counts and prints answers that are not as due. */
final class Check {
  private int looked = 0;
  private int wrong = 0;

  void due(String call, long got, long want) {
    looked++;
    if (got != want) {
      wrong++;
      System.out.println(call + " answered " + got + ", due is " + want);
    }
  }

  void due(String what, boolean isSo) {
    due(what, isSo ? 1 : 0, 1);
  }

  void end() {
    System.out.println(looked + " looked at, " + wrong + " wrong");
    if (wrong != 0) System.exit(1);
  }
}
