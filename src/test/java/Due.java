/** What the tests share: it tells of every answer that is not the one that is due. */
final class Due {
  private final String test;
  private int looked = 0;
  private int wrong = 0;

  Due(String test) {
    this.test = test;
  }

  void is(String call, long got, long want) {
    looked++;
    if (got != want) {
      wrong++;
      System.out.println(test + ": " + call + " answered " + got + ", due is " + want);
    }
  }

  void holds(String what, boolean so) {
    looked++;
    if (!so) {
      wrong++;
      System.out.println(test + ": " + what);
    }
  }

  /** A call that answers its refusal, which status() counts once. */
  void refused(LoanPence x, String call, int before, long got, int by) {
    is(call, got, by);
    is(call + ", then status(" + by + ")", x.status(by), before + 1L);
  }

  /** A call that answers 0 as it is refused, which status() alone tells. */
  void refusedAsZero(LoanPence x, String call, int before, long got, int by) {
    is(call, got, 0);
    is(call + ", then status(" + by + ")", x.status(by), before + 1L);
  }

  void end() {
    System.out.println(test + ": " + looked + " looked at, " + wrong + " wrong");
    if (wrong != 0 || looked == 0) {
      System.exit(1);
    }
  }
}
