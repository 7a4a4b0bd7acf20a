/** Promises 25 to 31: funds, estimates, points, what is paid as years close and what a rule gains. */
public final class YearsTest {
  private static final int BEYOND = LoanPence.BEYOND;
  private static final int NO = LoanPence.NO;
  private static final int FULL = LoanPence.FULL;
  private static final Due due = new Due("YearsTest");

  public static void main(String[] args) {
    fund();
    closeFull();
    estimate();
    estimateAsKnown();
    estimateRefused();
    book();
    kinds();
    pointsByRules();
    pointsOfHeirs();
    pointsPassedOn();
    pointsJoined();
    partedRests();
    partedMost();
    partedLeast();
    restGoesOn();
    back();
    backOldestFirst();
    backOfLateClaims();
    backShortOfFund();
    backJoined();
    backByLate();
    paid();
    gain();
    due.end();
  }

  /** A land of one DRAWN LIBRARY in which n EDITIONS are lent, each of a PERSON of its own. */
  private static LoanPence land(int... loans) {
    LoanPence x = new LoanPence();
    x.library(0, 10);
    x.draw(1);
    for (int i = 0; i < loans.length; i++) {
      x.edition(0, i, 0);
      x.person(i, 0, -50);
      x.share(i, 10 * i, 100);
    }
    lend(x, loans);
    return x;
  }

  /** ALL is told as what is lent, so that each ESTIMATE is its number of LOANS. */
  private static void lend(LoanPence x, int... loans) {
    int all = 0;
    for (int i = 0; i < loans.length; i++) {
      if (loans[i] > 0) {
        x.lent(0, i, loans[i]);
      }
      all += loans[i];
    }
    x.all(0, all);
  }

  private static void paidIs(LoanPence x, String when, int year, int what, long... want) {
    for (int p = 0; p < want.length; p++) {
      due.is(when + ": paid(" + year + ", " + p + ", " + what + ")", x.paid(year, p, what), want[p]);
    }
  }

  private static void fund() {
    LoanPence x = new LoanPence();
    due.refused(x, "25 fund(-1)", 0, x.fund(-1), NO);
    due.refused(x, "25 fund(10000000)", 1, x.fund(10000000), NO);
    due.is("25 fund(9999999)", x.fund(9999999), 0);
    due.is("25 fund(0)", x.fund(0), 9999999);
    due.is("25 fund(5)", x.fund(5), 0);
    x.close();
    due.is("25 fund(6) of the next YEAR", x.fund(6), 0);
    due.is("25 year(0, 5)", x.year(0, 5), 5);
    due.is("25 year(1, 5)", x.year(1, 5), 6);
  }

  private static void closeFull() {
    LoanPence x = new LoanPence();
    x.fund(3);
    for (int i = 0; i < 40; i++) {
      due.is("26 close()", x.close(), 0);
    }
    due.is("26 count(0)", x.count(0), 40);
    due.refused(x, "26 close() of 40", 0, x.close(), FULL);
    due.is("26 count(0)", x.count(0), 40);
    due.is("26 year(39, 8)", x.year(39, 8), 3);
    due.is("26 year(40, 6)", x.year(40, 6), 0);
    due.is("26 fund(1) of 40", x.fund(1), 0);
  }

  private static void estimate() {
    LoanPence x = new LoanPence();
    x.library(0, 10);
    x.library(0, 10);
    x.library(3, 10);
    x.draw(7);
    for (int i = 0; i < 4; i++) {
      x.edition(0, i, 0);
    }
    x.all(0, 10);
    x.all(1, 999);
    for (int e = 0; e < 4; e++) {
      due.is("27 without LOANS", x.estimate(0, e, 0), 0);
    }
    x.lent(0, 0, 2);
    x.lent(1, 1, 2);
    x.lent(0, 2, 1);
    x.lent(1, 2, 1);
    int[] like = {4, 3, 3, 0};
    for (int e = 0; e < 4; e++) {
      due.is("27 like rests, EDITION " + e, x.estimate(0, e, 0), like[e]);
    }
    x.lent(1, 2, 3);
    // 2, 2, 5 of 9 by 10: 2 and 2/9, 2 and 2/9, 5 and 5/9
    int[] greatest = {2, 2, 6, 0};
    for (int e = 0; e < 4; e++) {
      due.is("27 the greatest rest, EDITION " + e, x.estimate(0, e, 0), greatest[e]);
    }
    x.all(3, 9999999);
    x.lent(2, 3, 99999);
    x.lent(2, 0, 1);
    // 9999999 of 100000: 99.99999 and 9999899.00001
    int[] both = {2 + 100, 2, 6, 9999899};
    for (int e = 0; e < 4; e++) {
      due.is("27 of two REGIONS, EDITION " + e, x.estimate(0, e, 0), both[e]);
    }
    x.all(0, 0);
    due.is("27 ALL is 0", x.estimate(0, 2, 0), 0);
  }

  private static void estimateAsKnown() {
    LoanPence x = land(1, 3);
    x.all(0, 100);
    x.close();
    x.put(0, 0, 0, 9);
    x.close();
    x.put(0, 0, 1, 0);
    due.is("27 estimate(0, 0, 0)", x.estimate(0, 0, 0), 25);
    due.is("27 estimate(0, 0, 1)", x.estimate(0, 0, 1), 75);
    due.is("27 estimate(0, 0, 2)", x.estimate(0, 0, 2), 100);
    due.is("27 estimate(0, 1, 2)", x.estimate(0, 1, 2), 0);
    x.lent(0, 0, 5);
    x.all(0, 50);
    due.is("27 estimate(2, 0, 1) ahead of its YEAR", x.estimate(2, 0, 1), 0);
    due.is("27 estimate(2, 0, 2)", x.estimate(2, 0, 2), 50);
  }

  private static void estimateRefused() {
    LoanPence x = land(1);
    int[][] wrong = {{1, 0, 0}, {-1, 0, 0}, {0, 1, 0}, {0, -1, 0}, {0, 0, 1}, {0, 0, -1}};
    for (int i = 0; i < wrong.length; i++) {
      int[] w = wrong[i];
      due.refusedAsZero(x, "27 estimate, wrong " + i, i, x.estimate(w[0], w[1], w[2]), BEYOND);
    }
    due.is("27 estimate(0, 0, 0)", x.estimate(0, 0, 0), 1);
  }

  private static void book() {
    LoanPence x = new LoanPence();
    x.library(0, 10);
    x.draw(1);
    for (int i = 0; i < 4; i++) {
      x.edition(i, 1, 0);
    }
    lend(x, 5, 7, 11, 13);
    due.is("28 book(0, 3)", x.book(0, 3), 13);
    x.join(0, 3, 1);
    due.is("28 book(0, 1)", x.book(0, 1), 20);
    due.is("28 book(0, 3)", x.book(0, 3), 20);
    due.is("28 book(0, 2)", x.book(0, 2), 11);
    x.close();
    x.put(0, 0, 1, 1);
    x.put(0, 0, 3, 1);
    // ALL of 36, LOANS 5, 1, 11, 1 of 18
    due.is("28 book(0, 3) as KNOWN now", x.book(0, 3), 4);
    due.is("28 book(1, 3)", x.book(1, 3), 0);
    due.refusedAsZero(x, "28 book(2, 0)", 0, x.book(2, 0), BEYOND);
    due.refusedAsZero(x, "28 book(-1, 0)", 1, x.book(-1, 0), BEYOND);
    due.refusedAsZero(x, "28 book(0, 4)", 2, x.book(0, 4), BEYOND);
    due.refusedAsZero(x, "28 book(0, -1)", 3, x.book(0, -1), BEYOND);
  }

  private static void kinds() {
    LoanPence x = new LoanPence();
    x.library(0, 10);
    x.draw(1);
    for (int k = 0; k < 6; k++) {
      x.edition(k, k, 0);
      x.person(k, 0, 0);
      x.share(k, 10 * k + k % 5, 100);
    }
    lend(x, 10, 10, 10, 10, 10, 10);
    int[] want = {120, 120, 60, 70, 40, 60};
    for (int k = 0; k < 6; k++) {
      due.is("29 points of KIND " + k, x.points(0, k), want[k]);
    }
    due.refusedAsZero(x, "29 points(1, 0)", 0, x.points(1, 0), BEYOND);
    due.refusedAsZero(x, "29 points(-1, 0)", 1, x.points(-1, 0), BEYOND);
    due.refusedAsZero(x, "29 points(0, 6)", 2, x.points(0, 6), BEYOND);
    due.refusedAsZero(x, "29 points(0, -1)", 3, x.points(0, -1), BEYOND);
  }

  private static void pointsByRules() {
    LoanPence x = new LoanPence();
    x.library(0, 10);
    x.draw(1);
    x.edition(2, 0, 0);
    x.person(0, 0, 0);
    x.person(1, 2, 0);
    x.share(0, 0, 33);
    x.share(0, 11, 34);
    lend(x, 5);
    due.is("29 points(0, 0)", x.points(0, 0), 9);
    due.is("29 points(0, 1)", x.points(0, 1), 10);
    Tapes.rule(x, "part 33", 0, 100);
    due.is("29 cut once, at the end", x.points(0, 0), 3);
    Tapes.rule(x, "part 101 if role = 1", 0, 100);
    due.is("29 part above its bound", x.points(0, 1), 10);
    Tapes.rule(x, "abroad 50", 0, 100);
    due.is("29 abroad of one from home", x.points(0, 0), 3);
    due.is("29 abroad of another", x.points(0, 1), 5);
    Tapes.rule(x, "abroad 50000", 0, 100);
    due.is("29 abroad above its bound", x.points(0, 1), 10);
    Tapes.rule(x, "abroad -1", 0, 100);
    due.is("29 abroad below its bound", x.points(0, 1), 0);
    Tapes.rule(x, "part -1 if role = 0", 0, 100);
    due.is("29 part below its bound", x.points(0, 0), 0);
    Tapes.rule(x, "part 100", 0, 100);
    due.is("29 part 100", x.points(0, 0), 9);
    Tapes.rule(x, "who role - 3", 0, 100);
    due.is("29 who says what is not 0", x.points(0, 0), 9);
    Tapes.rule(x, "who role", 0, 100);
    due.is("29 who says 0", x.points(0, 0), 0);
    Tapes.rule(x, "who 1 if loans = 5 and parts = 33", 0, 1);
    due.is("29 who says 1", x.points(0, 0), 9);
  }

  private static void pointsOfHeirs() {
    LoanPence x = land(25, 0, 0);
    x.close();
    lend(x, 25);
    x.heir(0, 1, 33);
    x.heir(0, 2, 66);
    due.is("29 it lives", x.points(1, 0), 300);
    x.died(0, 1);
    due.is("29 it DIED in that YEAR", x.points(1, 0), 300);
    due.is("29 its HEIR then", x.points(1, 1), 0);
    x.died(0, 0);
    due.is("29 it DIED ahead of it", x.points(1, 0), 0);
    due.is("29 its HEIR then", x.points(1, 1), 99);
    due.is("29 its other HEIR then", x.points(1, 2), 198);
    due.is("29 in the YEAR ahead", x.points(0, 0), 300);
    x.heir(0, 1, 0);
    due.is("29 no HEIR any longer", x.points(1, 1), 0);
    // 12 LOANS of 25 by 7 parts: each SHARE is cut by itself
    LoanPence y = new LoanPence();
    y.library(0, 1);
    y.draw(1);
    y.edition(4, 1, 0);
    y.person(0, 0, -9);
    y.person(1, 0, -9);
    y.share(0, 0, 50);
    y.share(0, 1, 50);
    y.died(0, -1);
    y.heir(0, 1, 50);
    lend(y, 1);
    // 2 POINTS of each SHARE
    due.is("29 of both SHARES", y.points(0, 1), 2);
    y.heir(0, 1, 49);
    due.is("29 cut by SHARES", y.points(0, 1), 0);
  }

  private static void pointsPassedOn() {
    LoanPence x = land(100, 0, 0, 0, 0, 0);
    for (int p = 0; p < 5; p++) {
      x.heir(p, p + 1, 90);
    }
    long[] passed = {1200, 1080, 972, 874, 786};
    for (int p = 0; p < 5; p++) {
      due.is("29 passed on " + p + " times", x.points(0, p), passed[p]);
      due.is("29 and to the next one nothing", x.points(0, p + 1), 0);
      x.died(p, -1);
    }
    for (int p = 0; p < 6; p++) {
      due.is("29 not passed on five times", x.points(0, p), 0);
    }
    x.heir(3, 5, 10);
    due.is("29 another way of four", x.points(0, 5), 87);
    x.heir(5, 0, 100);
    x.died(5, 0);
    due.is("29 one that DIED in that YEAR", x.points(0, 5), 87);
  }

  private static void pointsJoined() {
    LoanPence x = new LoanPence();
    x.library(0, 10);
    x.draw(1);
    for (int i = 0; i < 3; i++) {
      x.edition(0, i, 0);
      x.person(7, i, -100);
      x.share(i, 10 * i, 100);
    }
    lend(x, 1, 2, 3);
    x.join(1, 2, 1);
    due.is("29 points(0, 0)", x.points(0, 0), 12);
    due.is("29 of the ONE", x.points(0, 1), 60);
    due.is("29 of one JOINED", x.points(0, 2), 0);
    Tapes.rule(x, "abroad 50 if land = 2", 0, 100);
    due.is("29 each by its own LAND", x.points(0, 1), 24 + 18);
    x.heir(1, 0, 50);
    x.died(1, -1);
    due.is("29 the ONE DIED, not the other", x.points(0, 1), 18);
    due.is("29 its HEIR", x.points(0, 0), 12 + 12);
    x.died(2, -1);
    due.is("29 HEIRS are of a PERSON, not of its ONE", x.points(0, 0), 12 + 12);
    due.is("29 nothing is left to the ONE", x.points(0, 1), 0);
  }

  private static void partedRests() {
    LoanPence x = land(1, 1, 1, 0);
    x.fund(11);
    due.is("26 close()", x.close(), 3);
    paidIs(x, "26 like rests", 0, 0, 4, 4, 3, 0);
    LoanPence y = land(1, 2, 4);
    y.fund(10);
    due.is("26 close()", y.close(), 3);
    // 1 and 3/7, 2 and 6/7, 5 and 5/7
    paidIs(y, "26 the greatest rests", 0, 0, 1, 3, 6);
    due.is("26 year(0, 8)", y.year(0, 8), 0);
    LoanPence z = land(1, 2, 97);
    z.fund(1);
    due.is("26 who gets 0 got nothing", z.close(), 1);
    paidIs(z, "26 one penny", 0, 0, 0, 0, 1);
    LoanPence none = land(0, 0);
    none.fund(5);
    due.is("26 without POINTS", none.close(), 0);
    due.is("26 all is THE REST", none.year(0, 8), 5);
    due.is("26 all was PARTED", none.year(0, 6), 5);
  }

  private static LoanPence closedWith(String rule, int pence, int... loans) {
    LoanPence x = land(loans);
    due.is("22 rule", Tapes.rule(x, rule, 0, 100), 0);
    x.fund(pence);
    x.close();
    return x;
  }

  private static void partedMost() {
    LoanPence x = closedWith("most 30", 100, 70, 20, 10);
    paidIs(x, "26 one by one out", 0, 0, 30, 30, 30);
    due.is("26 all are out", x.year(0, 8), 10);
    x = closedWith("most 40", 100, 70, 20, 10);
    paidIs(x, "26 one is out", 0, 0, 40, 40, 20);
    due.is("26 year(0, 8)", x.year(0, 8), 0);
    x = closedWith("most 40", 81, 1, 1);
    paidIs(x, "26 looked at exactly", 0, 0, 40, 40);
    due.is("26 year(0, 8)", x.year(0, 8), 1);
    x = closedWith("most 41", 81, 1, 1);
    paidIs(x, "26 none is out", 0, 0, 41, 40);
    x = closedWith("most 0", 81, 1, 1);
    paidIs(x, "26 most 0 is no bound", 0, 0, 41, 40);
    x = closedWith("most -1", 81, 1, 1);
    paidIs(x, "26 most -1 is no bound", 0, 0, 41, 40);
    x = closedWith("most 50", 100, 90, 5, 5, 0);
    paidIs(x, "26 the others share what is left", 0, 0, 50, 25, 25, 0);
    x = closedWith("most 9999999", 9999999, 99999, 1);
    due.is("26 all of it", x.paid(0, 0, 0) + x.paid(0, 1, 0), 9999999);
  }

  private static void partedLeast() {
    LoanPence x = closedWith("least 20", 100, 70, 20, 10);
    paidIs(x, "26 less than the least", 0, 0, 70, 20, 0);
    due.is("26 year(0, 8)", x.year(0, 8), 10);
    x = closedWith("least 21", 100, 70, 20, 10);
    paidIs(x, "26 less than the least", 0, 0, 70, 0, 0);
    x = closedWith("least -5", 100, 70, 20, 10);
    paidIs(x, "26 a least below 0", 0, 0, 70, 20, 10);
    x = land(70, 20, 10);
    Tapes.rule(x, "most 25", 0, 100);
    Tapes.rule(x, "least 26", 0, 100);
    x.fund(100);
    due.is("26 the most below the least", x.close(), 0);
    due.is("26 year(0, 8)", x.year(0, 8), 100);
    x = closedWith("least year * 1000", 100, 70, 20, 10);
    paidIs(x, "26 least 0 of YEAR 0", 0, 0, 70, 20, 10);
    lend(x, 70, 30);
    x.fund(1000);
    due.is("26 least 1000 of YEAR 1", x.close(), 0);
  }

  private static void restGoesOn() {
    LoanPence x = closedWith("most 30 if year < 1", 100, 1);
    due.is("26 THE REST", x.year(0, 8), 70);
    x.fund(5);
    lend(x, 1);
    due.is("26 close()", x.close(), 1);
    due.is("26 year(1, 6) has THE REST of the YEAR ahead", x.year(1, 6), 75);
    due.is("26 year(1, 5)", x.year(1, 5), 5);
    due.is("26 paid(1, 0, 0)", x.paid(1, 0, 0), 75);
    due.is("26 close()", x.close(), 0);
    due.is("26 year(2, 6)", x.year(2, 6), 0);
  }

  private static void back() {
    LoanPence x = closedWith("late 1", 1000, 30, 70);
    x.put(0, 0, 0, 70);
    paidIs(x, "30 paid", 0, 0, 300, 700);
    paidIs(x, "30 as KNOWN now", 0, 1, 500, 500);
    paidIs(x, "30 as KNOWN then", 0, 2, 300, 700);
    x.fund(120);
    due.is("26 close()", x.close(), 1);
    due.is("26 year(1, 7)", x.year(1, 7), 120);
    due.is("26 year(1, 6)", x.year(1, 6), 0);
    paidIs(x, "26 who got too much keeps it", 0, 0, 420, 700);
    paidIs(x, "26 BACK is paid as YEAR 1 closed", 1, 3, 120, 0);
    paidIs(x, "26 BACK is not of YEAR 1", 1, 0, 0, 0);
    paidIs(x, "26 nor was it paid as YEAR 0 closed", 0, 3, 300, 700);
    x.fund(100);
    due.is("26 two YEARS later it is too late", x.close(), 0);
    due.is("26 year(2, 7)", x.year(2, 7), 0);
    Tapes.rule(x, "late 3", 0, 100);
    x.fund(0);
    due.is("26 close() with THE REST of the YEAR ahead", x.close(), 1);
    due.is("26 year(3, 7)", x.year(3, 7), 80);
    due.is("26 year(3, 6)", x.year(3, 6), 20);
    paidIs(x, "26 all that it lacked", 0, 0, 500, 700);
    x.fund(50);
    due.is("26 nothing more is lacking", x.close(), 0);
    due.is("26 year(4, 7)", x.year(4, 7), 0);
  }

  private static void backOldestFirst() {
    LoanPence x = closedWith("late 2", 100, 2, 0);
    x.fund(100);
    lend(x, 0, 2);
    x.close();
    x.put(0, 0, 1, 2);
    x.put(1, 0, 0, 2);
    x.fund(60);
    due.is("26 close()", x.close(), 2);
    paidIs(x, "26 the oldest YEAR first", 0, 0, 100, 50);
    paidIs(x, "26 then the next one", 1, 0, 10, 100);
    paidIs(x, "26 as it closed", 2, 3, 10, 50);
  }

  private static void backOfLateClaims() {
    LoanPence x = new LoanPence();
    x.library(0, 10);
    x.draw(1);
    x.edition(0, 1, 0);
    x.edition(0, 2, 0);
    x.person(1, 0, 0);
    x.person(2, 0, 0);
    x.share(0, 0, 100);
    lend(x, 10, 30);
    x.fund(400);
    x.close();
    paidIs(x, "26 nobody claims the other", 0, 0, 400, 0);
    x.share(1, 10, 100);
    Tapes.rule(x, "late 5", 0, 100);
    lend(x, 1, 1);
    x.fund(500);
    due.is("26 close()", x.close(), 2);
    paidIs(x, "26 a late claim", 0, 0, 400, 300);
    due.is("26 year(1, 6)", x.year(1, 6), 200);
    paidIs(x, "26 what is left is PARTED", 1, 0, 100, 100);
    paidIs(x, "26 paid as YEAR 1 closed", 1, 3, 100, 400);
    Tapes.rule(x, "who claim < year + 1", 0, 100);
    due.is("30 by RULES of that YEAR", x.paid(0, 1, 1), 0);
  }

  private static void backShortOfFund() {
    LoanPence x = closedWith("late 1", 1000, 98, 1, 1);
    paidIs(x, "26 paid", 0, 0, 980, 10, 10);
    x.put(0, 0, 0, 0);
    x.put(0, 0, 1, 50);
    x.put(0, 0, 2, 50);
    x.fund(9);
    due.is("26 close()", x.close(), 2);
    // lacks of 490 and 490: each 9 by 2, cut
    paidIs(x, "26 lacks cut down", 1, 3, 0, 4, 4);
    due.is("26 year(1, 7)", x.year(1, 7), 8);
    due.is("26 the rest stays", x.year(1, 6), 1);
    x.fund(99999);
    Tapes.rule(x, "late 2", 0, 100);
    x.close();
    paidIs(x, "26 then the rest of them", 0, 0, 980, 500, 500);
    due.is("26 year(2, 7)", x.year(2, 7), 972);
  }

  private static void backJoined() {
    LoanPence x = new LoanPence();
    x.library(0, 10);
    x.draw(1);
    for (int i = 0; i < 3; i++) {
      x.edition(0, i, 0);
      x.person(i / 2, 0, -100);
      x.share(i, 10 * i, 100);
    }
    lend(x, 40, 10, 50);
    x.fund(100);
    x.close();
    x.join(1, 0, 1);
    x.put(0, 0, 2, 0);
    Tapes.rule(x, "late 40", 0, 100);
    x.fund(1000);
    due.is("30 paid(0, 0, 1) of the ONE", x.paid(0, 0, 1), 100);
    due.is("30 paid(0, 1, 1) of one JOINED", x.paid(0, 1, 1), 0);
    due.is("26 close()", x.close(), 1);
    due.is("26 what both got counts", x.year(1, 7), 50);
    paidIs(x, "26 it is paid to the ONE", 0, 0, 90, 10, 50);
  }

  private static void backByLate() {
    String[] texts = {"late 0", "late -3", "late 2", "late 3", "late 41", "late 9999999"};
    long[] want = {0, 0, 0, 50, 50, 50};
    for (int i = 0; i < texts.length; i++) {
      LoanPence x = closedWith(texts[i], 100, 2, 0);
      x.close();
      x.close();
      x.put(0, 0, 1, 2);
      x.fund(60);
      x.close();
      due.is("26 paid BACK by " + texts[i], x.year(3, 7), want[i]);
    }
  }

  private static void paid() {
    LoanPence x = land(1, 3);
    x.fund(100);
    due.refusedAsZero(x, "30 paid(0, 0, 0) while it is open", 0, x.paid(0, 0, 0), BEYOND);
    x.close();
    due.refusedAsZero(x, "30 paid(-1, 0, 0)", 1, x.paid(-1, 0, 0), BEYOND);
    due.refusedAsZero(x, "30 paid(0, 2, 9)", 2, x.paid(0, 2, 9), BEYOND);
    due.refusedAsZero(x, "30 paid(0, -1, 0)", 3, x.paid(0, -1, 0), BEYOND);
    due.refusedAsZero(x, "30 paid(0, 0, 4)", 0, x.paid(0, 0, 4), NO);
    due.refusedAsZero(x, "30 paid(0, 0, -1)", 1, x.paid(0, 0, -1), NO);
    for (int what = 0; what <= 3; what++) {
      paidIs(x, "30", 0, what, 25, 75);
    }
    x.person(9, 0, 0);
    x.share(0, 21, 1);
    due.is("30 SHARES have 100 PARTS at most", x.status(FULL), 1);
    Tapes.rule(x, "who 0 if title = 1", 0, 1);
    paidIs(x, "30 by RULES as they are now", 0, 1, 100, 0);
    paidIs(x, "30 so also as KNOWN in that YEAR", 0, 2, 100, 0);
    paidIs(x, "30 it was paid so", 0, 0, 25, 75);
  }

  private static void gain() {
    LoanPence x = land(70, 20, 10);
    Tapes.rule(x, "most 40", 0, 100);
    Tapes.rule(x, "who title < 2", 0, 100);
    Tapes.rule(x, "least 11", 0, 100);
    Tapes.rule(x, "late 1", 0, 100);
    Tapes.rule(x, "part 50 if title = 0", 1, 100);
    x.fund(100);
    due.refusedAsZero(x, "31 gain(0, 0, 0) while it is open", 0, x.gain(0, 0, 0), BEYOND);
    x.close();
    // 40 and 40; without most 78 and 22; without who 40, 40 and 20
    long[][] want = {{-38, 18, 0}, {0, 0, -20}, {0, 0, 0}, {0, 0, 0}, {0, 0, 0}};
    for (int rule = 0; rule < 5; rule++) {
      for (int p = 0; p < 3; p++) {
        due.is("31 gain(0, " + p + ", " + rule + ")", x.gain(0, p, rule), want[rule][p]);
      }
    }
    x.put(0, 0, 0, 0);
    due.is("31 as KNOWN now", x.gain(0, 1, 0), 40 - 100);
    due.refusedAsZero(x, "31 gain(-1, 0, 0)", 1, x.gain(-1, 0, 0), BEYOND);
    due.refusedAsZero(x, "31 gain(1, 0, 0)", 2, x.gain(1, 0, 0), BEYOND);
    due.refusedAsZero(x, "31 gain(0, 3, 0)", 3, x.gain(0, 3, 0), BEYOND);
    due.refusedAsZero(x, "31 gain(0, -1, 0)", 4, x.gain(0, -1, 0), BEYOND);
    due.refusedAsZero(x, "31 gain(0, 0, 5)", 5, x.gain(0, 0, 5), BEYOND);
    due.refusedAsZero(x, "31 gain(0, 0, -1)", 6, x.gain(0, 0, -1), BEYOND);
    due.is("31 the RULE is there still", x.why(3, 0, -1), 0);
    x.put(0, 0, 0, 70);
    lend(x, 70, 20, 10);
    x.fund(70);
    Tapes.rule(x, "most 0", 1, 100);
    x.close();
    // of YEAR 1: 35 and 20 of 55 by 90 pence (20 of them THE REST of YEAR 0), else 70 and 20 of 90
    due.is("31 gain of a part", x.gain(1, 0, 4), 57 - 70);
    due.is("31 gain of the other", x.gain(1, 1, 4), 33 - 20);
    due.is("31 of another YEAR", x.gain(0, 0, 4), 0);
  }
}
