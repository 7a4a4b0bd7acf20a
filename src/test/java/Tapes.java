/** Texts put on THE TAPE, as the tests write RULES. */
final class Tapes {
  private Tapes() {
  }

  static void feed(LoanPence x, String text) {
    for (int i = 0; i < text.length(); i++) {
      x.feed(text.charAt(i), 1);
    }
  }

  /** THE TAPE is wiped first, so that a FAULT ahead leaves nothing behind. */
  static int rule(LoanPence x, String text, int from, int to) {
    x.wipe();
    feed(x, text);
    return x.rule(from, to);
  }
}
