/** Promises 40 to 45, each sentence that names a bound, on both its sides. */
public final class RowBoundsTest {
  private static final Due due = new Due("RowBoundsTest");
  private static final Bounds bounds = new Bounds(due);

  public static void main(String[] args) {
    lay();
    set();
    tear();
    row();
    copyRefused();
    copy();
    status();
    statusOfEach();
    due.end();
  }

  private static void lay() {
    bounds.hold("40 n 0 .. 12", "lay(0) = 0; row(0) = 0 BEYOND; lay(1) = 1; row(0) = 0; row(1) = 0 BEYOND",
        "lay(12) = 12; row(11) = 0; row(12) = 0 BEYOND");
    bounds.hold("40 BELOW: n", Lands.RICH, "lay(-1) = BELOW; lay(MIN) = BELOW; row(1) = 5; lay(0) = 0",
        "lay(-1) = BELOW; copy(0, 0, 0) = 0");
    bounds.hold("40 NO: n", Lands.RICH, "lay(13) = NO; lay(MAX) = NO; row(1) = 5; lay(12) = 12; lay(13) = NO",
        "row(11) = 0");
    bounds.hold("40 refused, THE ROW is missing still", "lay(-1) = BELOW; tear() = 0; lay(13) = NO; tear() = 0",
        "lay(0) = 0; tear() = 1");
    bounds.hold("40 all 0", "lay(12)", Bounds.each(12, "set(#, 7)"), "lay(12)", Bounds.each(12, "row(#) = 0"),
        Bounds.each(12, "set(#, 7)"), "lay(3); lay(12)", Bounds.each(12, "row(#) = 0"));
  }

  private static void set() {
    bounds.hold("41 MISSING: 0", "set(0, 5) = 0 MISSING; set(-1, 5) = 0 MISSING; set(12, 5) = 0 MISSING; lay(1)",
        "row(0) = 0; set(0, 5) = 0; row(0) = 5");
    bounds.hold("41 BEYOND: 0", Lands.RICH, "set(2, 9) = -8; set(3, 9) = 0 BEYOND; set(-1, 9) = 0 BEYOND",
        "set(12, 9) = 0 BEYOND; set(MIN, 9) = 0 BEYOND; set(MAX, 9) = 0 BEYOND; set(0, 9) = 0; set(0, 4) = 9");
    bounds.hold("41 of a ROW of none", "lay(0); set(0, 5) = 0 BEYOND; set(-1, 5) = 0 BEYOND; lay(1); set(0, 5) = 0",
        "set(1, 5) = 0 BEYOND");
    bounds.hold("41 of a ROW of twelve", "lay(12); set(11, 5) = 0; set(12, 5) = 0 BEYOND; row(11) = 5");
    bounds.hold("41 any number", "lay(1); set(0, MIN) = 0; set(0, MAX) = -2147483648; set(0, -3) = 2147483647",
        "set(0, -8) = -3; row(0) = -8; status(-8) = 0; status(-3) = 0");
  }

  private static void tear() {
    bounds.hold("42 1 if it was there, else 0 (at first it is missing)", "tear() = 0; tear() = 0; lay(0)",
        "tear() = 1; tear() = 0; lay(12); tear() = 1; tear() = 0; row(0) = 0 MISSING");
    bounds.hold("42 nothing is left of it", "lay(2); set(0, 5); tear() = 1; lay(2); row(0) = 0");
  }

  private static void row() {
    bounds.hold("43 MISSING: 0", "row(0) = 0 MISSING; row(-1) = 0 MISSING; row(12) = 0 MISSING",
        "row(MIN) = 0 MISSING; lay(1); row(0) = 0; tear(); row(0) = 0 MISSING");
    bounds.hold("43 BEYOND: 0", Lands.RICH, "row(0) = 0; row(2) = -8; row(3) = 0 BEYOND; row(-1) = 0 BEYOND",
        "row(12) = 0 BEYOND; row(MIN) = 0 BEYOND; row(MAX) = 0 BEYOND");
    bounds.hold("43 of a ROW of none, of twelve", "lay(0); row(0) = 0 BEYOND; row(-1) = 0 BEYOND; lay(12)",
        "set(11, 4); row(11) = 4; row(12) = 0 BEYOND; lay(11); row(11) = 0 BEYOND");
  }

  private static void copyRefused() {
    bounds.hold("44 MISSING", "copy(0, 0, 0) = MISSING; copy(0, 0, -1) = MISSING; copy(-1, 0, 0) = MISSING",
        "copy(0, 13, 1) = MISSING; lay(0); copy(0, 0, 0) = 0");
    bounds.hold("44 BELOW: n", Lands.RICH, "copy(0, 1, 0) = 0; copy(0, 1, -1) = BELOW; copy(0, 1, MIN) = BELOW");
    bounds.hold("44 COPY: i or j below 0", Lands.RICH, "copy(-1, 1, 1) = COPY; copy(1, -1, 1) = COPY",
        "copy(MIN, 1, 1) = COPY; copy(1, MIN, 1) = COPY; copy(-1, 0, 0) = COPY; copy(0, -1, 0) = COPY",
        "copy(0, 1, 1) = 1");
    bounds.hold("44 COPY: i + n or j + n above how many there are", Lands.RICH, "copy(1, 0, 3) = COPY",
        "copy(0, 1, 3) = COPY; copy(3, 0, 1) = COPY; copy(0, 3, 1) = COPY; copy(4, 0, 0) = COPY",
        "copy(0, 4, 0) = COPY; copy(0, 0, 4) = COPY; copy(3, 3, 0) = 0; copy(0, 0, 3) = 3; copy(1, 0, 2) = 2",
        "row(0) = 5; row(1) = -8; row(2) = -8");
    bounds.hold("44 COPY: sums that would wrap", Lands.RICH, "copy(MAX, 0, 1) = COPY; copy(0, MAX, 1) = COPY",
        "copy(1, 0, MAX) = COPY; copy(0, 1, MAX) = COPY; copy(MAX, MAX, MAX) = COPY; copy(MIN, MIN, MAX) = COPY",
        "copy(MAX, MAX, 0) = COPY");
    bounds.hold("44 BELOW ahead of COPY", Lands.RICH, "copy(-1, -1, -1) = BELOW; copy(9, 0, MIN) = BELOW",
        "copy(-1, 9, 0) = COPY");
    bounds.hold("44 of a ROW of none", "lay(0); copy(0, 0, 0) = 0; copy(1, 0, 0) = COPY; copy(0, 1, 0) = COPY",
        "copy(0, 0, 1) = COPY; copy(0, 0, -1) = BELOW");
  }

  private static void copy() {
    String row = "lay(5);" + Bounds.eachOf("set(#, #)", 1, 2, 3, 4);
    bounds.hold("44 as they were: to places behind", row, "copy(0, 1, 4) = 4; row(0) = 0; row(1) = 0; row(2) = 1",
        "row(3) = 2; row(4) = 3");
    bounds.hold("44 as they were: to places ahead", row, "copy(1, 0, 4) = 4; row(0) = 1; row(1) = 2; row(2) = 3",
        "row(3) = 4; row(4) = 4");
    bounds.hold("44 none, one, all", row, "copy(2, 0, 0) = 0; row(0) = 0; copy(2, 0, 1) = 1; row(0) = 2; row(1) = 1",
        "copy(0, 0, 5) = 5; row(4) = 4; copy(4, 0, 1) = 1; row(0) = 4; copy(0, 4, 1) = 1; row(4) = 4");
    bounds.hold("44 all twelve", "lay(12); set(0, 5); copy(0, 6, 6) = 6; row(6) = 5; copy(0, 0, 12) = 12",
        "copy(0, 11, 1) = 1; row(11) = 5; copy(0, 11, 2) = COPY; copy(0, 12, 0) = 0; copy(0, 12, 1) = COPY");
  }

  private static void status() {
    bounds.hold("45 -2 .. -8", Lands.SMALL, "status(-2) = 0; status(-8) = 0; status(-1) = NO; status(-9) = NO",
        "status(0) = NO; status(MIN) = NO; status(MAX) = NO; status(2) = NO; status(-7) = 6");
    bounds.hold("45 NONE is no refusal", "judge() = MISSING; close(); library(0, 1); bestDraw(0) = NONE; lay(0)",
        "judge() = NONE; why(0, 0, -1) = NONE; status(-2) = 1; status(-7) = 0");
    bounds.hold("45 what a call tells is no refusal", "close(); person(1, 0, -9); lay(1); set(0, -7); row(0) = -7",
        "personOf(0, 2) = -9; died(0, -8); died(0, -3) = -8; tape most 0-6; rule(0, 1); says(3, 0, -1) = -6",
        "tape most 0-3; rule(0, 1); says(3, 0, -1) = -3; editionOf(0, 0) = 0 BEYOND; status(-8) = 0; status(-7) = 0",
        "status(-6) = 0; status(-3) = 1");
    bounds.hold("45 a FAULT is none of them", "rule(0, 1) = FAULT 0; tape who; rule(0, 1) = FAULT 3; status(-7) = 0",
        "status(-8) = 0; rule(1, 1) = NO; status(-7) = 1");
  }

  private static void statusOfEach() {
    bounds.hold("45 each by its own number", "back() = MISSING; status(-2) = 1; look(0, 0) = BEYOND; status(-3) = 1",
        "lay(-1) = BELOW; status(-4) = 1; library(0, 1); edition(0, 1, 0); lent(0, 0, 1) = KIND; status(-5) = 1",
        "lay(0); copy(0, 0, 1) = COPY; status(-6) = 1; library(4, 1) = NO; status(-7) = 1; 11 * library(0, 1)",
        "library(0, 1) = FULL; status(-8) = 1; status(-2) = 1; status(-3) = 1; library(0, 1) = FULL; status(-8) = 2");
    bounds.hold("45 of those that tell 0 by what they tell", "row(0) = 0 MISSING; status(-2) = 1",
        "known(0, 0, 0) = 0 BEYOND; year(1, 0) = 0 BEYOND; status(-3) = 2; year(0, 9) = 0 NO; status(-7) = 1");
    bounds.hold("45 image and back leave it", "image(); back(); library(4, 1) = NO; image(); library(4, 1) = NO",
        "back(); status(-7) = 2");
  }
}
