/** Promises 40 to 45: the row, and what status tells. */
public final class RowsTest {
  private static final int MISSING = LoanPence.MISSING;
  private static final int BEYOND = LoanPence.BEYOND;
  private static final int BELOW = LoanPence.BELOW;
  private static final int COPY = LoanPence.COPY;
  private static final int NO = LoanPence.NO;
  private static final Due due = new Due("RowsTest");

  public static void main(String[] args) {
    missing();
    lay();
    setAndRow();
    tear();
    copy();
    status();
    due.end();
  }

  private static void missing() {
    LoanPence x = new LoanPence();
    due.refusedAsZero(x, "41 set(0, 1)", 0, x.set(0, 1), MISSING);
    due.refusedAsZero(x, "41 set(-1, 1)", 1, x.set(-1, 1), MISSING);
    due.refusedAsZero(x, "43 row(0)", 2, x.row(0), MISSING);
    due.refusedAsZero(x, "43 row(12)", 3, x.row(12), MISSING);
    due.refused(x, "44 copy(0, 0, -1)", 4, x.copy(0, 0, -1), MISSING);
    due.is("42 tear()", x.tear(), 0);
    due.is("status(BEYOND)", x.status(BEYOND), 0);
  }

  private static void lay() {
    LoanPence x = new LoanPence();
    due.refused(x, "40 lay(-1)", 0, x.lay(-1), BELOW);
    due.refused(x, "40 lay(13)", 0, x.lay(13), NO);
    due.is("40 the row is missing still", x.tear(), 0);
    due.is("40 lay(12)", x.lay(12), 12);
    x.set(11, 5);
    x.set(0, 6);
    due.is("40 lay(2)", x.lay(2), 2);
    due.is("40 row(0)", x.row(0), 0);
    due.refusedAsZero(x, "40 row(2)", 0, x.row(2), BEYOND);
    due.is("40 lay(12)", x.lay(12), 12);
    for (int i = 0; i < 12; i++) {
      due.is("40 row(" + i + ")", x.row(i), 0);
    }
    x.set(3, 9);
    due.refused(x, "40 lay(13)", 1, x.lay(13), NO);
    due.refused(x, "40 lay(-1)", 1, x.lay(-1), BELOW);
    due.is("40 the row stays", x.row(3), 9);
    due.is("40 lay(0)", x.lay(0), 0);
    due.refusedAsZero(x, "40 row(0)", 1, x.row(0), BEYOND);
    due.is("40 tear()", x.tear(), 1);
  }

  private static void setAndRow() {
    LoanPence x = new LoanPence();
    x.lay(3);
    due.is("41 set(2, MIN)", x.set(2, Integer.MIN_VALUE), 0);
    due.is("41 set(2, -3)", x.set(2, -3), Integer.MIN_VALUE);
    due.is("43 row(2)", x.row(2), -3);
    due.is("41 set(2, 7)", x.set(2, 7), -3);
    due.refusedAsZero(x, "41 set(3, 1)", 0, x.set(3, 1), BEYOND);
    due.refusedAsZero(x, "41 set(-1, 1)", 1, x.set(-1, 1), BEYOND);
    due.refusedAsZero(x, "43 row(3)", 2, x.row(3), BEYOND);
    due.refusedAsZero(x, "43 row(-1)", 3, x.row(-1), BEYOND);
    due.is("43 row(0)", x.row(0), 0);
    due.is("43 row(2)", x.row(2), 7);
  }

  private static void tear() {
    LoanPence x = new LoanPence();
    x.lay(3);
    x.set(1, 4);
    due.is("42 tear()", x.tear(), 1);
    due.is("42 tear()", x.tear(), 0);
    due.refusedAsZero(x, "42 row(1)", 0, x.row(1), MISSING);
    x.lay(3);
    due.is("42 row(1)", x.row(1), 0);
  }

  private static void copy() {
    LoanPence x = new LoanPence();
    x.lay(5);
    for (int i = 0; i < 5; i++) {
      x.set(i, i + 1);
    }
    due.is("44 copy(0, 1, 4)", x.copy(0, 1, 4), 4);
    rowIs(x, 1, 1, 2, 3, 4);
    due.is("44 copy(1, 0, 4)", x.copy(1, 0, 4), 4);
    rowIs(x, 1, 2, 3, 4, 4);
    due.is("44 copy(0, 3, 2)", x.copy(0, 3, 2), 2);
    rowIs(x, 1, 2, 3, 1, 2);
    due.is("44 copy(5, 5, 0)", x.copy(5, 5, 0), 0);
    due.is("44 copy(0, 0, 5)", x.copy(0, 0, 5), 5);
    int max = Integer.MAX_VALUE;
    int[][] wrong = {{-1, 0, 1}, {0, -1, 1}, {1, 0, 5}, {0, 1, 5}, {6, 0, 0}, {0, 6, 0}, {max, 0, 1}, {0, max, 1},
      {1, 1, max}, {max, max, max}, {-1, 0, 0}, {0, 0, 6}};
    for (int i = 0; i < wrong.length; i++) {
      int[] w = wrong[i];
      due.refused(x, "44 copy, wrong " + i, i, x.copy(w[0], w[1], w[2]), COPY);
    }
    due.refused(x, "44 copy(-1, 9, -1)", 0, x.copy(-1, 9, -1), BELOW);
    due.refused(x, "44 copy(0, 0, MIN)", 1, x.copy(0, 0, Integer.MIN_VALUE), BELOW);
    rowIs(x, 1, 2, 3, 1, 2);
  }

  private static void rowIs(LoanPence x, int... want) {
    for (int i = 0; i < want.length; i++) {
      due.is("44 row(" + i + ")", x.row(i), want[i]);
    }
  }

  private static void status() {
    LoanPence x = new LoanPence();
    x.person(1, 0, -3);
    x.lay(1);
    x.set(0, -7);
    due.is("45 personOf(0, 2) is no refusal", x.personOf(0, 2), -3);
    due.is("45 row(0) is no refusal", x.row(0), -7);
    x.died(0, -2);
    due.is("45 died(0, 0) is no refusal", x.died(0, 0), -2);
    for (int by = -8; by <= -2; by++) {
      due.is("45 status(" + by + ")", x.status(by), 0);
    }
    due.is("45 status(-1)", x.status(-1), NO);
    due.is("45 status(-9)", x.status(-9), NO);
    due.is("45 status(0)", x.status(0), NO);
    due.is("45 status(7)", x.status(7), NO);
    due.is("45 status(MIN)", x.status(Integer.MIN_VALUE), NO);
    due.is("45 status(-7) counts those, too", x.status(-7), 5);
    due.is("45 status(-3)", x.status(-3), 0);
  }
}
