/** Promises 25 to 31, each sentence that names a bound, on both its sides. */
public final class YearBoundsTest {
  private static final Due due = new Due("YearBoundsTest");
  private static final Bounds bounds = new Bounds(due);

  public static void main(String[] args) {
    fund();
    closeFull();
    nextYear();
    howManyGot();
    theFund();
    most();
    mostAgain();
    rests();
    restsOfAnotherYear();
    leastPoints();
    least();
    late();
    lateAsFarAsCanBe();
    lacks();
    lacksCut();
    gotOfThatYear();
    estimateRefused();
    estimateCut();
    estimateOfRegions();
    book();
    pointsRefused();
    pointsCut();
    pointsBounded();
    whoSays();
    heirs();
    passedOn();
    ones();
    paid();
    paidAsKnown();
    gain();
    due.end();
  }

  /** A land of as many EDITIONS with a writer each, its RULES, what is lent, and pence. */
  private static String land(String rules, int pence, int... loans) {
    StringBuilder text = new StringBuilder(Lands.writers(loans.length));
    for (String rule : rules.split(",")) {
      if (!rule.isEmpty()) {
        text.append("tape ").append(rule).append(";rule(0, 100);");
      }
    }
    return text + Lands.lent(loans) + "fund(" + pence + ");";
  }

  /** Rows that tell what each PERSON got of a YEAR (what 0), or would get of it (1, 2). */
  private static String paid(int year, int what, int... want) {
    StringBuilder text = new StringBuilder();
    for (int p = 0; p < want.length; p++) {
      text.append(new Call("paid", year, p, what).text()).append(" = ").append(want[p]).append(';');
    }
    return text.toString();
  }

  private static void fund() {
    bounds.hold("25 told (0 .. 9999999 pence, 0 till then)", "year(0, 5) = 0; fund(0) = 0; fund(9999999) = 0",
        "year(0, 5) = 9999999; fund(0) = 9999999; fund(1) = 0; close(); year(1, 5) = 0; fund(2) = 0; year(0, 5) = 1");
    bounds.hold("25 NO: pence", Lands.RICH, "fund(-1) = NO; fund(10000000) = NO; fund(MIN) = NO; fund(MAX) = NO",
        "fund(9999999) = 44; fund(0) = 9999999");
  }

  private static void closeFull() {
    bounds.hold("26 the open one is 0 at first, 40 at most", Lands.SMALL, "fund(3); count(0) = 0; close() = 0",
        "count(0) = 1; 38 * close(); count(0) = 39; close() = 0; count(0) = 40; close() = FULL; count(0) = 40",
        "fund(5); lent(0, 0, 1); all(0, 9); close() = FULL; year(40, 5) = 5; year(39, 8) = 3; year(40, 6) = 0",
        "lent(0, 0, 1) = 2");
  }

  private static void nextYear() {
    bounds.hold("26 the next YEAR: DRAWN ones as in this one, ALL 0, told pence 0", "2 * library(3, 5); draw(2)",
        "all(0, 7); all(3, 8); fund(9); close() = 0; count(0) = 1; year(1, 0) = 2; year(1, 1) = 0; year(1, 4) = 0",
        "year(1, 5) = 0; year(0, 0) = 2; year(0, 1) = 7; year(0, 4) = 8; year(0, 5) = 9");
    bounds.hold("26 with none DRAWN the next YEAR has none", "library(0, 1); close() = 0; year(1, 0) = 0; draw(1)",
        "close(); year(2, 0) = 1");
  }

  private static void howManyGot() {
    bounds.hold("26 how many PERSONS got something: of no pence", land("", 0, 1, 1), "close() = 0", paid(0, 0, 0, 0));
    bounds.hold("26 how many PERSONS got something: of one penny", land("", 1, 1, 1), "close() = 1", paid(0, 0, 1, 0));
    bounds.hold("26 how many PERSONS got something: of two", land("", 2, 1, 1), "close() = 2", paid(0, 0, 1, 1));
    bounds.hold("26 how many PERSONS got something: BACK, too", land("late 1", 10, 1, 1), "close() = 2",
        "put(0, 0, 1, 0); fund(1); close() = 1", paid(1, 3, 1, 0), paid(1, 0, 0, 0), "put(0, 0, 0, 0)",
        "put(0, 0, 1, 1); put(1, 0, 0, 1); close() = 0");
    bounds.hold("26 who got BACK and more counts once", land("late 1", 10, 1, 1), "close(); put(0, 0, 1, 0)",
        Lands.lent(1, 0), "fund(9); close() = 1; year(1, 7) = 5; year(1, 6) = 4", paid(1, 3, 9, 0));
    bounds.hold("26 without PERSONS", "fund(5); close() = 0; year(0, 6) = 5; year(0, 8) = 5");
    bounds.hold("26 all 20 of them", "library(0, 1); draw(1); 20 * edition(0, 1, 0)",
        Bounds.each(20, "person(1, 0, -9); share(#, #0, 100); lent(0, #, 1)"), "all(0, 20); fund(19); close() = 19",
        "paid(0, 18, 0) = 1; paid(0, 19, 0) = 0; paid(0, 20, 0) = 0 BEYOND");
  }

  private static void theFund() {
    bounds.hold("26 THE FUND: what was told, and THE REST of the YEAR ahead", land("most 4 if year=0", 7, 1),
        "close() = 1; year(0, 6) = 7; year(0, 8) = 3; fund(2)", Lands.lent(1), "close() = 1; year(1, 5) = 2",
        "year(1, 6) = 5; year(1, 8) = 0", Lands.lent(1), "close() = 0; year(2, 6) = 0");
    bounds.hold("26 THE REST without anything told", land("most 4 if year=0", 7, 1), "close()", Lands.lent(1),
        "close() = 1; year(1, 5) = 0; year(1, 6) = 3; paid(1, 0, 0) = 3");
    bounds.hold("26 there are no POINTS: the rest is to nobody", land("", 7, 0), "close() = 0; year(0, 6) = 7",
        "year(0, 8) = 7", Lands.lent(1), "close() = 1; paid(1, 0, 0) = 7; year(1, 8) = 0");
    bounds.hold("26 THE REST of many YEARS is more than can be told of one", "fund(9999999); close(); fund(9999999)",
        "close(); fund(9999999); close(); year(2, 8) = 29999997");
  }

  private static void most() {
    bounds.hold("26 most 0 or below: no bound", land("most 0", 81, 1, 1), "close() = 2; year(0, 8) = 0",
        paid(0, 0, 41, 40));
    bounds.hold("26 most -1: no bound", land("most -1", 81, 1, 1), "close() = 2; year(0, 8) = 0", paid(0, 0, 41, 40));
    bounds.hold("26 most 1 is a bound", land("most 1", 81, 1, 1), "close() = 2; year(0, 8) = 79", paid(0, 0, 1, 1));
    // 40 and 1/2 each: cut that is no more than 40, and yet it is
    bounds.hold("26 more than MOST, exactly looked at, not cut", land("most 40", 81, 1, 1), "close() = 2",
        "year(0, 8) = 1", paid(0, 0, 40, 40));
    bounds.hold("26 not more than MOST", land("most 41", 81, 1, 1), "close() = 2; year(0, 8) = 0", paid(0, 0, 41, 40));
    bounds.hold("26 just MOST", land("most 40", 80, 1, 1), "close() = 2; year(0, 8) = 0", paid(0, 0, 40, 40));
    bounds.hold("26 one penny above MOST", land("most 40", 41, 1), "close() = 1; year(0, 8) = 1", paid(0, 0, 40));
    bounds.hold("26 the greatest MOST", land("most 9999999*214+7483861", 9999999, 1, 0), "close() = 1",
        "year(0, 8) = 0", paid(0, 0, 9999999, 0));
    bounds.hold("26 a MOST that wraps is below 0", land("most 9999999*214+7483862", 9999999, 1, 0), "close() = 1",
        "year(0, 8) = 0", paid(0, 0, 9999999, 0));
  }

  private static void mostAgain() {
    // 70, 20, 10; then 20 and 10 of 70: 46 and 2/3, 23 and 1/3; then 40
    bounds.hold("26 again and again: all are out", land("most 30", 100, 70, 20, 10), "close() = 3; year(0, 8) = 10",
        paid(0, 0, 30, 30, 30));
    // 20 and 10 of 61: 40 and 2/3; then 22
    bounds.hold("26 again and again: two are out", land("most 39", 100, 70, 20, 10), "close() = 3; year(0, 8) = 0",
        paid(0, 0, 39, 39, 22));
    // 20 and 10 of 60: just 40, and 20
    bounds.hold("26 again and again: one is out", land("most 40", 100, 70, 20, 10), "close() = 3; year(0, 8) = 0",
        paid(0, 0, 40, 40, 20));
    bounds.hold("26 again and again: none is out", land("most 70", 100, 70, 20, 10), "close() = 3; year(0, 8) = 0",
        paid(0, 0, 70, 20, 10));
    bounds.hold("26 all are out but one without POINTS", land("most 30", 100, 70, 30, 0), "close() = 2",
        "year(0, 8) = 40", paid(0, 0, 30, 30, 0));
    // 50 of 100, then 8, 4, 2, 1 of 50: 26 and 2/3; then 4, 2, 1 of 30: 17 and 1/7, 8 and 4/7, 4 and 2/7
    bounds.hold("26 parted anew among the others", land("most 20", 100, 100, 8, 4, 2, 1), "close() = 5",
        "year(0, 8) = 0", paid(0, 0, 20, 20, 20, 20, 20));
    // 20 out; 8, 4, 2, 1 of 30: 16, 8, 4, 2
    bounds.hold("26 what is left is parted so", land("most 20", 50, 100, 8, 4, 2, 1), "close() = 5; year(0, 8) = 0",
        paid(0, 0, 20, 16, 8, 4, 2));
  }

  private static void rests() {
    bounds.hold("26 nothing is left", land("", 3, 1, 1, 1), "close() = 3", paid(0, 0, 1, 1, 1));
    bounds.hold("26 one is left, of like rests the least number", land("", 4, 1, 1, 1), "close() = 3",
        paid(0, 0, 2, 1, 1));
    bounds.hold("26 two are left", land("", 5, 1, 1, 1), "close() = 3", paid(0, 0, 2, 2, 1));
    // of 7: 1 and 3/7, 2 and 6/7, 5 and 5/7
    bounds.hold("26 to the greatest rests", land("", 10, 1, 2, 4), "close() = 3", paid(0, 0, 1, 3, 6));
    // 1 and 2/7, 2 and 4/7, 5 and 1/7
    bounds.hold("26 one to the greatest rest", land("", 9, 1, 2, 4), "close() = 3", paid(0, 0, 1, 3, 5));
    bounds.hold("26 without POINTS none is left to it", land("", 5, 1, 0, 1), "close() = 2", paid(0, 0, 3, 0, 2));
    // 70 is out with 40; of 11 that are left 5 and 1/2 each
    bounds.hold("26 who is out has no rest", land("most 40", 51, 70, 1, 1), "close() = 3; year(0, 8) = 0",
        paid(0, 0, 40, 6, 5));
  }

  /** What one parting left behind is nothing to the next. */
  private static void restsOfAnotherYear() {
    // of 17: 6, 6 and 5 rests, so that PERSON 2's stays the greatest that nobody looked at
    bounds.hold("26 rests are of that YEAR alone", land("", 1, 6, 6, 5), "close() = 1", paid(0, 0, 1, 0, 0),
        Lands.lent(1, 1, 0), "fund(1); close() = 1", paid(1, 0, 1, 0, 0));
    bounds.hold("26 RULES of no SHARE: most, least", land("most parts/10,least parts", 81, 1, 1), "close() = 2",
        "year(0, 8) = 0", paid(0, 0, 41, 40));
  }

  private static void leastPoints() {
    // READ, an ESTIMATE of 1: 4 POINTS by PARTS
    String one = "library(0, 1); draw(1); edition(4, 1, 0); 2 * person(1, 0, -9); lent(0, 0, 1); all(0, 1); fund(5);";
    bounds.hold("26 of 1 POINT in all", one, "share(0, 0, 25); points(0, 0) = 1; close() = 1; year(0, 8) = 0",
        paid(0, 0, 5, 0));
    bounds.hold("26 of 0 POINTS in all", one, "share(0, 0, 24); points(0, 0) = 0; close() = 0; year(0, 8) = 5",
        paid(0, 0, 0, 0));
    bounds.hold("26 of 1 POINT and 2", one, "share(0, 0, 25); share(0, 10, 50); points(0, 1) = 2; close() = 2",
        "year(0, 8) = 0", paid(0, 0, 2, 3));
    bounds.hold("26 1 POINT and a MOST", one, "share(0, 0, 25); share(0, 10, 50); tape most 1; rule(0, 9)",
        "close() = 2; year(0, 8) = 3", paid(0, 0, 1, 1));
  }

  private static void least() {
    bounds.hold("26 who gets less than what least SAYS gets nothing", land("least 20", 100, 70, 20, 10),
        "close() = 2; year(0, 8) = 10", paid(0, 0, 70, 20, 0));
    bounds.hold("26 least 21", land("least 21", 100, 70, 20, 10), "close() = 1; year(0, 8) = 30",
        paid(0, 0, 70, 0, 0));
    bounds.hold("26 least 10", land("least 10", 100, 70, 20, 10), "close() = 3; year(0, 8) = 0",
        paid(0, 0, 70, 20, 10));
    bounds.hold("26 least 71", land("least 71", 100, 70, 20, 10), "close() = 0; year(0, 8) = 100",
        paid(0, 0, 0, 0, 0));
    bounds.hold("26 least 0", land("least 0", 100, 70, 20, 10), "close() = 3; year(0, 8) = 0", paid(0, 0, 70, 20, 10));
    bounds.hold("26 least -1", land("least -1", 100, 70, 20, 10), "close() = 3; year(0, 8) = 0",
        paid(0, 0, 70, 20, 10));
    bounds.hold("26 least is looked at behind the rests", land("least 2", 4, 1, 1, 1), "close() = 1; year(0, 8) = 2",
        paid(0, 0, 2, 0, 0));
    bounds.hold("26 least as MOST", land("most 30,least 30", 100, 70, 20, 10), "close() = 3; year(0, 8) = 10",
        paid(0, 0, 30, 30, 30));
    bounds.hold("26 least above MOST", land("most 30,least 31", 100, 70, 20, 10), "close() = 0; year(0, 8) = 100",
        paid(0, 0, 0, 0, 0));
    bounds.hold("26 least 0 is no bound for who gets 0", land("least 1", 1, 1, 1), "close() = 1; year(0, 8) = 0",
        paid(0, 0, 1, 0));
  }

  /** YEAR 0 lacks 5 of PERSON 0 from YEAR 1 on; YEARS till then are empty. */
  private static String lackFromOldYear(String rule, int closes) {
    return land(rule, 10, 1, 1) + closes + " * close(); put(0, 0, 1, 0); fund(50);";
  }

  private static void late() {
    bounds.hold("26 late 0: none of the YEARS ahead", lackFromOldYear("late 0", 1), "close() = 0; year(1, 7) = 0",
        "year(1, 6) = 50");
    bounds.hold("26 late -1, the bound: 0", lackFromOldYear("late -1", 1), "close() = 0; year(1, 7) = 0",
        "year(1, 6) = 50");
    bounds.hold("26 late 1: the YEAR ahead", lackFromOldYear("late 1", 1), "close() = 1; year(1, 7) = 5",
        "year(1, 6) = 45");
    bounds.hold("26 late 1: not the one ahead of that", lackFromOldYear("late 1", 2), "close() = 0; year(2, 7) = 0",
        "year(2, 6) = 50");
    bounds.hold("26 late 2: the one ahead of that", lackFromOldYear("late 2", 2), "close() = 1; year(2, 7) = 5",
        "year(2, 6) = 45");
    bounds.hold("26 late 40: no more YEARS than there are", lackFromOldYear("late 40", 2), "close() = 1",
        "year(2, 7) = 5");
    bounds.hold("26 late 41, the bound: 40", lackFromOldYear("late 41", 2), "close() = 1; year(2, 7) = 5");
    bounds.hold("26 late as great as can be", lackFromOldYear("late 9999999*214+7483861", 2), "close() = 1",
        "year(2, 7) = 5");
    bounds.hold("26 late wraps to what is below 0", lackFromOldYear("late 9999999*214+7483862", 2), "close() = 0",
        "year(2, 7) = 0");
    bounds.hold("26 late as it SAYS for the YEAR that closes", lackFromOldYear("late 2 if year=2", 1), "close() = 0",
        "year(1, 7) = 0; close() = 1; year(2, 7) = 5");
    bounds.hold("26 of YEAR 0 no YEAR is ahead", land("late 40", 10, 1, 1), "close() = 2; year(0, 7) = 0",
        "year(0, 6) = 10");
  }

  private static void lateAsFarAsCanBe() {
    bounds.hold("26 late 38 as YEAR 39 closes", lackFromOldYear("late 38 if year=39", 39), "count(0) = 39",
        "close() = 0; year(39, 7) = 0");
    bounds.hold("26 late 39 as YEAR 39 closes", lackFromOldYear("late 39 if year=39", 39), "count(0) = 39",
        "close() = 1; year(39, 7) = 5");
    bounds.hold("26 late 40 as YEAR 39 closes", lackFromOldYear("late 40 if year=39", 39), "count(0) = 39",
        "close() = 1; year(39, 7) = 5");
  }

  private static void lacks() {
    // of 100 pence 50 and 50; then 51 LOANS of 100 are 51, 50 are 50
    bounds.hold("26 who would get more: by one penny", land("late 1", 100, 50, 50), "close(); put(0, 0, 0, 51)",
        "put(0, 0, 1, 49); fund(9); close() = 1; year(1, 7) = 1; year(1, 6) = 8", paid(0, 0, 51, 50),
        paid(1, 3, 1, 0));
    bounds.hold("26 who would get as much", land("late 1", 100, 50, 50), "close(); put(0, 0, 0, 25)",
        "put(0, 0, 1, 25); fund(9); close() = 0; year(1, 7) = 0; year(1, 6) = 9", paid(0, 0, 50, 50));
    bounds.hold("26 who got too much gives nothing back", land("late 2", 100, 50, 50), "close(); put(0, 0, 0, 100)",
        "put(0, 0, 1, 0); fund(50); close() = 1", paid(0, 0, 100, 50), "put(0, 0, 0, 0); put(0, 0, 1, 100)",
        "fund(50); close() = 1; year(2, 7) = 50", paid(0, 0, 100, 100));
    bounds.hold("26 they are got of that YEAR: once", land("late 40", 100, 50, 50), "close(); put(0, 0, 0, 60)",
        "put(0, 0, 1, 40); fund(99); close() = 1; year(1, 7) = 10; fund(99); close() = 0; year(2, 7) = 0",
        "put(0, 0, 0, 61); put(0, 0, 1, 39); fund(99); close() = 1; year(3, 7) = 1", paid(0, 0, 61, 50));
    bounds.hold("26 a YEAR of which nothing was PARTED", land("late 1", 0, 50, 50), "close(); put(0, 0, 0, 60)",
        "fund(99); close() = 0; year(1, 7) = 0; year(1, 6) = 99");
    bounds.hold("26 a YEAR of which one penny was PARTED", land("late 1", 1, 2, 1), "close() = 1; put(0, 0, 0, 0)",
        "fund(9); close() = 1; year(1, 7) = 1; year(1, 6) = 8", paid(0, 0, 1, 1));
    bounds.hold("26 lacks of all 20", "library(0, 1); draw(1); 20 * edition(0, 1, 0)",
        Bounds.each(20, "person(1, 0, -9); share(#, #0, 100); lent(0, #, 1)"), "tape late 1; rule(0, 9); all(0, 20)",
        "fund(20); close() = 20; put(0, 0, 19, 20); put(0, 0, 0, 0); fund(39); paid(0, 19, 1) = 10; close() = 1",
        "year(1, 7) = 9; paid(0, 19, 0) = 10; paid(1, 19, 3) = 9");
    bounds.hold("26 late claims", Lands.SMALL, "edition(0, 2, 0); person(2, 0, -9); tape late 1; rule(0, 9)",
        Lands.lent(1, 1), "fund(10); close() = 1; share(1, 10, 100); fund(9); close() = 1; year(1, 7) = 5",
        "year(1, 6) = 4", paid(0, 0, 10, 5));
  }

  /** Lacks of 490 and 490 of YEAR 0, with so many pence to pay them. */
  private static String twoLacks(int pence) {
    return land("late 1", 1000, 98, 1, 1)
        + "close(); put(0, 0, 0, 0); put(0, 0, 1, 50); put(0, 0, 2, 50); fund(" + pence + ");";
  }

  private static void lacksCut() {
    bounds.hold("26 lacks that are together as much as is left of THE FUND", twoLacks(980), "close() = 2",
        "year(1, 7) = 980; year(1, 6) = 0", paid(1, 3, 0, 490, 490));
    bounds.hold("26 lacks that are together less", twoLacks(981), "close() = 2; year(1, 7) = 980; year(1, 6) = 1",
        paid(1, 3, 0, 490, 490));
    bounds.hold("26 lacks that are together more: cut (the rest stays)", twoLacks(979), "close() = 2",
        "year(1, 7) = 978; year(1, 6) = 1", paid(1, 3, 0, 489, 489));
    bounds.hold("26 lacks that are together more: nothing to be cut", twoLacks(978), "close() = 2; year(1, 7) = 978",
        "year(1, 6) = 0", paid(1, 3, 0, 489, 489));
    bounds.hold("26 two pence left of THE FUND", twoLacks(2), "close() = 2; year(1, 7) = 2; year(1, 6) = 0",
        paid(1, 3, 0, 1, 1));
    bounds.hold("26 one penny left of THE FUND", twoLacks(1), "close() = 0; year(1, 7) = 0; year(1, 6) = 1",
        "year(1, 8) = 1", paid(1, 3, 0, 0, 0));
    bounds.hold("26 nothing left of THE FUND", twoLacks(0), "close() = 0; year(1, 7) = 0; year(1, 6) = 0",
        paid(1, 3, 0, 0, 0));
    String twoYears = land("late 2", 100, 2, 0) + "close(); fund(100);" + Lands.lent(0, 2)
        + "close(); put(0, 0, 1, 2); put(1, 0, 0, 2);";
    // 50 are lacking of each YEAR
    bounds.hold("26 from the oldest on: enough for one", twoYears, "fund(50); close() = 1", paid(0, 0, 100, 50),
        paid(1, 0, 0, 100));
    bounds.hold("26 from the oldest on: enough for one and a penny", twoYears, "fund(51); close() = 2",
        "year(2, 7) = 51", paid(0, 0, 100, 50), paid(1, 0, 1, 100));
    bounds.hold("26 from the oldest on: not enough for one", twoYears, "fund(49); close() = 1; year(2, 7) = 49",
        paid(0, 0, 100, 49), paid(1, 0, 0, 100));
    bounds.hold("26 from the oldest on: enough for both", twoYears, "fund(100); close() = 2; year(2, 7) = 100",
        "year(2, 6) = 0", paid(0, 0, 100, 50), paid(1, 0, 50, 100));
  }

  private static void gotOfThatYear() {
    String joined = "library(0, 10); draw(1); 3 * edition(0, 1, 0); 2 * person(1, 0, -100); person(2, 0, -9);"
        + Bounds.each(3, "share(#, #0, 100)") + "tape late 9; rule(0, 100);"
        + Lands.lent(40, 10, 50) + "fund(100); close();";
    bounds.hold("26 PERSONS (ONES): what all got whose ONE it is", joined, "join(1, 0, 1); fund(9); close() = 0",
        "year(1, 7) = 0");
    // 100 of 100 are the ONE's then, which got 40 and 10
    bounds.hold("26 PERSONS (ONES): what is lacking of it", joined, "join(1, 0, 1); put(0, 0, 2, 0); fund(60)",
        "close() = 1; year(1, 7) = 50", paid(0, 0, 90, 10, 50));
    // apart 80 and 20 of 100
    bounds.hold("26 PERSONS that were not JOINED", joined, "put(0, 0, 2, 0); fund(60); close() = 2; year(1, 7) = 50",
        paid(0, 0, 80, 20, 50));
  }

  private static void estimateRefused() {
    bounds.hold("27 a YEAR (0 .. the open one)", Lands.RICH, "estimate(0, 2, 1) = 200; estimate(1, 0, 1) = 80",
        "estimate(2, 0, 1) = 0 BEYOND; estimate(-1, 0, 1) = 0 BEYOND; estimate(MIN, 0, 1) = 0 BEYOND",
        "estimate(MAX, 0, 1) = 0 BEYOND");
    bounds.hold("27 as KNOWN in a YEAR (0 .. the open one)", Lands.RICH, "estimate(0, 2, 0) = 231",
        "estimate(0, 2, 1) = 200; estimate(0, 2, 2) = 0 BEYOND; estimate(0, 2, -1) = 0 BEYOND",
        "estimate(0, 2, MIN) = 0 BEYOND; estimate(0, 2, MAX) = 0 BEYOND; close(); estimate(0, 2, 2) = 200");
    bounds.hold("27 BEYOND: EDITION", Lands.RICH, "estimate(0, 2, 1) = 200; estimate(0, 3, 1) = 0 BEYOND",
        "estimate(0, -1, 1) = 0 BEYOND; estimate(0, MIN, 1) = 0 BEYOND; estimate(0, MAX, 1) = 0 BEYOND",
        "edition(0, 1, 0); estimate(0, 3, 1) = 0");
    bounds.hold("27 as KNOWN ahead of its own YEAR", Lands.SMALL, "close(); lent(0, 0, 1); all(0, 7)",
        "estimate(1, 0, 0) = 0; estimate(1, 0, 1) = 7");
  }

  private static void estimateCut() {
    bounds.hold("27 without LOANS there: 0 of all", Lands.SMALL, "all(0, 7); estimate(0, 0, 0) = 0; lent(0, 0, 1)",
        "estimate(0, 0, 0) = 7; close(); put(0, 0, 0, 0); estimate(0, 0, 1) = 0");
    bounds.hold("27 ALL 0, ALL 1", Lands.writers(2), "lent(0, 0, 1); lent(0, 1, 1); estimate(0, 0, 0) = 0",
        "all(0, 1); estimate(0, 0, 0) = 1; estimate(0, 1, 0) = 0; all(0, 2); estimate(0, 1, 0) = 1");
    String three = Lands.writers(4) + Bounds.each(3, "lent(0, #, 1)");
    bounds.hold("27 nothing is left of ALL", three, "all(0, 3); estimate(0, 0, 0) = 1; estimate(0, 1, 0) = 1",
        "estimate(0, 2, 0) = 1; estimate(0, 3, 0) = 0");
    bounds.hold("27 one is left, of like rests the least EDITION", three, "all(0, 4); estimate(0, 0, 0) = 2",
        "estimate(0, 1, 0) = 1; estimate(0, 2, 0) = 1; estimate(0, 3, 0) = 0");
    bounds.hold("27 two are left", three, "all(0, 5); estimate(0, 0, 0) = 2; estimate(0, 1, 0) = 2",
        "estimate(0, 2, 0) = 1; estimate(0, 3, 0) = 0");
    // of 7 LOANS: 1 and 2/7, 2 and 4/7, 5 and 1/7
    String seven = Lands.writers(3) + "lent(0, 0, 1); lent(0, 1, 2); lent(0, 2, 4);";
    bounds.hold("27 to the greatest rest", seven, "all(0, 9); estimate(0, 0, 0) = 1; estimate(0, 1, 0) = 3",
        "estimate(0, 2, 0) = 5");
    bounds.hold("27 to the two greatest rests", seven, "all(0, 10); estimate(0, 0, 0) = 1; estimate(0, 1, 0) = 3",
        "estimate(0, 2, 0) = 6");
    bounds.hold("27 all 30 EDITIONS", "library(0, 1); draw(1); 30 * edition(0, 1, 0)",
        Bounds.each(30, "lent(0, #, 1)"), "all(0, 29); estimate(0, 28, 0) = 1; estimate(0, 29, 0) = 0; all(0, 30)",
        "estimate(0, 29, 0) = 1; all(0, 31); estimate(0, 0, 0) = 2; estimate(0, 1, 0) = 1");
    bounds.hold("27 as great as can be", Lands.writers(2), "100 * lent(0, 0, 99999); lent(0, 0, 99); lent(0, 1, 1)",
        "all(0, 9999999)",
        // 9999998 and 1/10^7, 9999999/10^7
        "estimate(0, 0, 0) = 9999998; estimate(0, 1, 0) = 1");
  }

  private static void estimateOfRegions() {
    String regions = Bounds.each(4, "library(#, 5)") + "2 * edition(0, 1, 0); draw(15);";
    bounds.hold("27 of all REGIONS together", regions, "all(0, 1); all(1, 20); all(2, 300); all(3, 4000)",
        "lent(0, 0, 1); estimate(0, 0, 0) = 1; lent(3, 0, 1); estimate(0, 0, 0) = 4001; lent(1, 0, 1)",
        "estimate(0, 0, 0) = 4021; lent(2, 0, 1); estimate(0, 0, 0) = 4321; estimate(0, 1, 0) = 0");
    // one is left of each REGION: each time to EDITION 0
    bounds.hold("27 what is left is left of each REGION", regions,
        Bounds.each(4, "all(#, 1); lent(#, 0, 1); lent(#, 1, 1)"), "estimate(0, 0, 0) = 4; estimate(0, 1, 0) = 0");
    bounds.hold("27 LOANS in DRAWN LIBRARIES there", "library(0, 5); library(0, 9); library(1, 5)",
        "2 * edition(0, 1, 0); draw(7); lent(0, 0, 1); lent(1, 1, 3); lent(2, 0, 1); all(0, 8)",
        "estimate(0, 0, 0) = 2; estimate(0, 1, 0) = 6; all(1, 9); estimate(0, 0, 0) = 11; estimate(0, 1, 0) = 6");
  }

  private static void book() {
    bounds.hold("28 a YEAR (0 .. the open one)", Lands.RICH, "book(0, 2) = 200; book(1, 0) = 80",
        "book(2, 0) = 0 BEYOND; book(-1, 0) = 0 BEYOND; book(MIN, 0) = 0 BEYOND; book(MAX, 0) = 0 BEYOND");
    bounds.hold("28 BEYOND: EDITION", Lands.RICH, "book(0, 2) = 200; book(0, 3) = 0 BEYOND; book(0, -1) = 0 BEYOND",
        "book(0, MIN) = 0 BEYOND; book(0, MAX) = 0 BEYOND; edition(0, 1, 0); book(0, 3) = 0");
    bounds.hold("28 of one EDITION, of two, of all", "library(0, 1); draw(1); 30 * edition(0, 1, 0)",
        Bounds.each(30, "lent(0, #, 1)"), "all(0, 30); book(0, 0) = 1; book(0, 29) = 1; join(0, 0, 29)",
        "book(0, 0) = 2; book(0, 29) = 2; book(0, 28) = 1", Bounds.each(28, "join(0, #, 29)"), "book(0, 27) = 29",
        "book(0, 28) = 1; join(0, 28, 29); book(0, 28) = 30; book(0, 0) = 30");
  }

  private static void pointsRefused() {
    bounds.hold("29 a YEAR (0 .. the open one)", Lands.RICH, "points(0, 0) = 1400; points(0, 1) = 9720",
        "points(1, 1) = 0; points(2, 0) = 0 BEYOND; points(-1, 0) = 0 BEYOND; points(MIN, 0) = 0 BEYOND",
        "points(MAX, 0) = 0 BEYOND; close(); points(2, 0) = 0");
    bounds.hold("29 BEYOND: PERSON", Lands.RICH, "points(0, 2) = 0; points(0, 3) = 0 BEYOND",
        "points(0, -1) = 0 BEYOND; points(0, MIN) = 0 BEYOND; points(0, MAX) = 0 BEYOND; person(1, 0, 0)",
        "points(0, 3) = 0");
  }

  private static void pointsCut() {
    // an ESTIMATE of 1, 4 POINTS: by PARTS of 25 that is 1, by 24 it is cut
    String read = "library(0, 1); draw(1); edition(4, 1, 0); person(1, 0, -9); lent(0, 0, 1); all(0, 1);";
    bounds.hold("29 by 1000000, cut: 999999 and less", read, "share(0, 0, 24); points(0, 0) = 0; share(0, 0, 24)",
        "points(0, 0) = 0");
    bounds.hold("29 by 1000000, cut: 1000000", read, "share(0, 0, 25); points(0, 0) = 1; share(0, 0, 49)",
        "points(0, 0) = 2; share(0, 0, 26); points(0, 0) = 3");
    bounds.hold("29 without LOANS, without a SHARE", read, "points(0, 0) = 0; share(0, 0, 100); points(0, 0) = 4",
        "close(); put(0, 0, 0, 0); points(0, 0) = 0; points(1, 0) = 0");
    int[] kinds = {12, 12, 6, 7, 4, 6};
    for (int kind = 0; kind < kinds.length; kind++) {
      bounds.hold("29 POINTS of KIND " + kind,
          "library(0, 1); draw(1); edition(" + kind + ", 1, 0); person(1, 0, -9); share(0, 0, 100); lent(0, 0, 1)",
          "all(0, 1); points(0, 0) = " + kinds[kind] + "; all(0, 9999999); points(0, 0) = " + 9999999 * kinds[kind]);
    }
    bounds.hold("29 as many as can be", Bounds.each(4, "library(#, 1); all(#, 9999999)"), "draw(15)",
        "edition(0, 1, 0); person(1, 0, -9); share(0, 0, 100)", Bounds.each(4, "lent(#, 0, 1)"),
        "points(0, 0) = 479999952");
  }

  private static void pointsBounded() {
    String two = "library(0, 1); draw(1); edition(0, 1, 0); person(1, 0, -9); person(1, 1, -9);"
        + "share(0, 0, 50); share(0, 10, 50); lent(0, 0, 1); all(0, 100);";
    int[][] partSays = {{-1, 0}, {0, 0}, {1, 6}, {99, 594}, {100, 600}, {101, 600}, {9999999, 600}};
    for (int[] p : partSays) {
      String tape = (p[0] < 0 ? "0-" : "") + Math.abs(p[0]);
      bounds.hold("29 what part SAYS (0 .. 100, else the bound): " + p[0], two, "tape part " + tape + "; rule(0, 9)",
          "points(0, 0) = " + p[1] + "; points(0, 1) = " + p[1]);
      bounds.hold("29 what abroad SAYS (likewise): " + p[0], two, "tape abroad " + tape + "; rule(0, 9)",
          "points(0, 0) = 600; points(0, 1) = " + p[1]);
    }
    bounds.hold("29 if its PERSON's LAND is not 0", two, "tape abroad 50; rule(0, 9); tape part 50; rule(0, 9)",
        "points(0, 0) = 300; points(0, 1) = 150");
    bounds.hold("29 LAND 3", two, "person(1, 3, -9); edition(0, 1, 0); share(1, 20, 100); lent(0, 1, 1)",
        "tape abroad 50; rule(0, 9); points(0, 2) = 300");
  }

  private static void whoSays() {
    bounds.hold("29 0 if who SAYS 0", Lands.SMALL, Lands.lent(1), "tape who 0; rule(0, 9); points(0, 0) = 0",
        "tape who 1; rule(0, 9); points(0, 0) = 12; tape who 0; rule(0, 9); tape who 0-1; rule(0, 9)",
        "points(0, 0) = 12; tape who 65536*65536; rule(0, 9); points(0, 0) = 0; tape who 9; rule(0, 9)",
        "points(0, 0) = 12");
    bounds.hold("29 0 of one SHARE alone", Lands.SMALL, "person(2, 0, -9); edition(0, 1, 0); share(1, 11, 100)",
        Lands.lent(1, 1), "tape who role; rule(0, 9); points(0, 0) = 0; points(0, 1) = 12");
  }

  private static void heirs() {
    bounds.hold("29 one who DIED ahead of that YEAR", Lands.writers(2), "2 * close()", Lands.lent(1, 0),
        "heir(0, 1, 100); died(0, 2); points(2, 0) = 12; points(2, 1) = 0; died(0, 1); points(2, 0) = 0",
        "points(2, 1) = 12; died(0, -50); points(2, 0) = 0; points(2, 1) = 12");
    // 2 POINTS: by 50 PARTS that is 1
    String two = "library(0, 1); draw(1); edition(4, 1, 0); 3 * person(1, 0, -9);"
        + "share(0, 0, 50); lent(0, 0, 1); all(0, 1); died(0, -1);";
    bounds.hold("29 POINTS times PARTS by 100, cut", two, "heir(0, 1, 49); points(0, 1) = 0; heir(0, 1, 50)",
        "points(0, 1) = 1; heir(0, 1, 99); points(0, 1) = 1; heir(0, 1, 100); points(0, 1) = 2");
    bounds.hold("29 what is left to nobody", two, "points(0, 0) = 0; points(0, 1) = 0; heir(0, 1, 50)",
        "heir(0, 2, 49); points(0, 1) = 1; points(0, 2) = 0; points(0, 0) = 0");
    bounds.hold("29 1 PART of 100", Lands.writers(2), Lands.lent(9, 0), "died(0, -1); heir(0, 1, 1)",
        "points(0, 1) = 1; close(); put(0, 0, 0, 8); all(0, 8); lent(0, 0, 8); points(1, 1) = 0; heir(0, 1, 2)",
        "points(1, 1) = 1; heir(0, 1, 0); points(1, 1) = 0");
    bounds.hold("29 the first PERSON is an HEIR", Lands.writers(2), Lands.lent(0, 5), "died(1, -1)",
        "points(0, 0) = 0; heir(1, 0, 50); points(0, 0) = 30");
    bounds.hold("29 the last PERSON is an HEIR, and has one", "library(0, 1); draw(1); edition(0, 1, 0)",
        "20 * person(1, 0, -9); share(0, 180, 50); share(0, 190, 50)", Lands.lent(1), "heir(18, 19, 50)",
        "heir(19, 0, 50); points(0, 18) = 6; points(0, 19) = 6; died(18, -1); points(0, 19) = 9; points(0, 0) = 0",
        "died(19, -1); points(0, 19) = 0; points(0, 0) = 4");
    bounds.hold("29 HEIRS who live, and one who DIED in that YEAR", Lands.writers(3), Lands.lent(1, 0, 0),
        "died(0, -1); heir(0, 1, 100); heir(1, 2, 100); points(0, 1) = 12; died(1, 0); points(0, 1) = 12",
        "died(1, -1); points(0, 1) = 0; points(0, 2) = 12");
  }

  private static void passedOn() {
    String chain = Lands.writers(6) + Lands.lent(1, 0, 0, 0, 0, 0) + Bounds.each(5, "died(#, -1)");
    bounds.hold("29 passed on 4 times in all at most", chain, "heir(0, 1, 100); heir(1, 2, 100); heir(2, 5, 100)",
        "points(0, 5) = 12; heir(2, 5, 0); heir(2, 3, 100); heir(3, 5, 100); points(0, 5) = 12; heir(3, 5, 0)",
        "heir(3, 4, 100); heir(4, 5, 100); points(0, 5) = 0; points(0, 4) = 0; died(4, 0); points(0, 4) = 12");
    bounds.hold("29 what would go on then is to nobody", Lands.writers(2), Lands.lent(1, 0), "heir(0, 1, 50)",
        "heir(1, 0, 50); died(0, -1); points(0, 1) = 6; died(1, -1); points(0, 0) = 0; points(0, 1) = 0");
  }

  private static void ones() {
    String joined = "library(0, 10); draw(1); 3 * edition(0, 1, 0); 3 * person(1, 0, -100);"
        + Bounds.each(3, "share(#, #0, 100)") + Lands.lent(1, 2, 4);
    bounds.hold("29 of one JOINED to another one: 0", joined, "points(0, 1) = 24; points(0, 2) = 48; join(1, 2, 1)",
        "points(0, 0) = 12; points(0, 1) = 72; points(0, 2) = 0; join(1, 0, 2); points(0, 0) = 84; points(0, 1) = 0",
        "points(0, 2) = 0");
  }

  private static void paid() {
    bounds.hold("30 BEYOND: a YEAR that isn't closed", Lands.RICH, "paid(0, 0, 0) = 900; paid(1, 0, 0) = 0 BEYOND",
        "paid(-1, 0, 0) = 0 BEYOND; paid(2, 0, 0) = 0 BEYOND; paid(MIN, 0, 0) = 0 BEYOND",
        "paid(MAX, 0, 0) = 0 BEYOND; close(); paid(1, 0, 0) = 0; paid(2, 0, 0) = 0 BEYOND");
    bounds.hold("30 BEYOND: PERSON", Lands.RICH, "paid(0, 2, 0) = 0; paid(0, 3, 0) = 0 BEYOND",
        "paid(0, -1, 0) = 0 BEYOND; paid(0, MIN, 0) = 0 BEYOND; paid(0, MAX, 0) = 0 BEYOND");
    bounds.hold("30 NO: what", Lands.RICH, "paid(0, 0, 0) = 900; paid(0, 0, 1) = 900; paid(0, 0, 2) = 900",
        "paid(0, 0, 3) = 900; paid(0, 0, 4) = 0 NO; paid(0, 0, -1) = 0 NO; paid(0, 0, MIN) = 0 NO",
        "paid(0, 0, MAX) = 0 NO");
    bounds.hold("30 BEYOND ahead of NO", Lands.RICH, "paid(1, 0, 4) = 0 BEYOND; paid(0, 3, 4) = 0 BEYOND",
        "paid(-1, -1, -1) = 0 BEYOND; paid(0, 2, 4) = 0 NO");
    bounds.hold("30 no YEAR is closed", Lands.SMALL, "paid(0, 0, 0) = 0 BEYOND; close(); paid(0, 0, 0) = 0");
    bounds.hold("30 to a PERSON's number", "library(0, 10); draw(1); 2 * edition(0, 1, 0); 2 * person(1, 0, -100)",
        Bounds.each(2, "share(#, #0, 100)"), Lands.lent(1, 3), "fund(100); close()", paid(0, 0, 25, 75),
        "join(1, 0, 1)", paid(0, 0, 25, 75), paid(0, 1, 100, 0), paid(0, 2, 100, 0), paid(0, 3, 25, 75));
  }

  private static void paidAsKnown() {
    bounds.hold("30 as KNOWN now, as KNOWN in that YEAR", land("", 100, 1, 1), "close(); put(0, 0, 1, 0)",
        paid(0, 0, 50, 50), paid(0, 1, 100, 0), paid(0, 2, 50, 50));
    // ALL of 4: 1 and 3 of it by LOANS of 1 and 3, 2 and 2 by LOANS of 2 and 3
    bounds.hold("30 what who SAYS by loans as KNOWN then", land("who loans>1", 100, 1, 3), "close()",
        "put(0, 0, 0, 2)", paid(0, 0, 0, 100), paid(0, 2, 0, 100), paid(0, 1, 50, 50));
    bounds.hold("30 BACK is got of its own YEAR, paid as the other closed", land("late 1", 100, 1, 1), "close()",
        "put(0, 0, 1, 0); fund(1)", Lands.lent(0, 1), "close() = 1", paid(0, 0, 51, 50), paid(0, 3, 50, 50),
        paid(1, 0, 0, 0), paid(1, 3, 1, 0));
    bounds.hold("30 of a YEAR in which nothing was PARTED", land("", 0, 1, 1), "close()", paid(0, 1, 0, 0),
        paid(0, 2, 0, 0));
  }

  private static void gain() {
    bounds.hold("31 BEYOND: a YEAR that isn't closed", Lands.RICH, "gain(0, 0, 0) = 271; gain(1, 0, 0) = 0 BEYOND",
        "gain(-1, 0, 0) = 0 BEYOND; gain(2, 0, 0) = 0 BEYOND; gain(MIN, 0, 0) = 0 BEYOND",
        "gain(MAX, 0, 0) = 0 BEYOND");
    bounds.hold("31 BEYOND: PERSON", Lands.RICH, "gain(0, 2, 0) = 0; gain(0, 3, 0) = 0 BEYOND",
        "gain(0, -1, 0) = 0 BEYOND; gain(0, MIN, 0) = 0 BEYOND; gain(0, MAX, 0) = 0 BEYOND");
    bounds.hold("31 BEYOND: RULE", Lands.RICH, "gain(0, 0, 1) = 0; gain(0, 0, 2) = 0 BEYOND",
        "gain(0, 0, -1) = 0 BEYOND; gain(0, 0, MIN) = 0 BEYOND; gain(0, 0, MAX) = 0 BEYOND; wipe(); tape who 1",
        "rule(0, 1); gain(0, 0, 2) = 0; gain(0, 0, 3) = 0 BEYOND");
    bounds.hold("31 a RULE that isn't for that YEAR", land("", 100, 70, 30), "tape most 40; rule(1, 9)",
        "tape most 40; rule(0, 1); close(); gain(0, 0, 0) = 0; gain(0, 0, 1) = -30; gain(0, 1, 1) = 10");
    bounds.hold("31 less than nothing, nothing, and more", land("most 40,most 50,least 45", 100, 70, 30), "close()",
        // with all 50 and 50; without RULE 1 nobody gets 45; without RULE 2 as much; without RULE 0 as much
        "gain(0, 0, 0) = 0; gain(0, 0, 1) = 50; gain(0, 1, 1) = 50; gain(0, 0, 2) = 0");
  }
}
