/** Promises 32 to 39, each sentence that names a bound, on both its sides. */
public final class DrawBoundsTest {
  private static final Due due = new Due("DrawBoundsTest");
  private static final Bounds bounds = new Bounds(due);

  public static void main(String[] args) {
    bestDrawRefused();
    noWidth();
    widthCut();
    likeOnes();
    judgeRefused();
    judge();
    movedRefused();
    movedMany();
    movedOfAll();
    movedAbove();
    movedRoots();
    movedPairs();
    spanRefused();
    span();
    count();
    keptNumbers();
    image();
    due.end();
  }

  private static void bestDrawRefused() {
    bounds.hold("32 BELOW: n", Lands.RICH, "bestDraw(0) = NONE; bestDraw(-1) = BELOW; bestDraw(MIN) = BELOW");
    bounds.hold("32 NO: n above how many LIBRARIES there are", Lands.RICH, "bestDraw(3) = 7; bestDraw(4) = NO",
        "bestDraw(MAX) = NO; library(0, 1); bestDraw(4) = 15; bestDraw(5) = NO");
    bounds.hold("32 NO: no YEAR is closed", "library(0, 1); bestDraw(0) = NO; bestDraw(1) = NO; close()",
        "bestDraw(0) = NONE; bestDraw(1) = 1");
    bounds.hold("32 BELOW ahead of NO", "bestDraw(-1) = BELOW; bestDraw(0) = NO; bestDraw(1) = NO; close()",
        "bestDraw(-1) = BELOW; bestDraw(0) = 0; bestDraw(1) = NO");
    bounds.hold("32 all twelve", "12 * library(1, 5); all(1, 60); close(); bestDraw(12) = 4095; bestDraw(13) = NO",
        "bestDraw(11) = 2047; bestDraw(1) = 1; bestDraw(0) = NONE");
  }

  private static void noWidth() {
    bounds.hold("32 none if one of these has none in the set", "library(0, 1); library(3, 1); close()",
        "bestDraw(0) = NONE; bestDraw(1) = NONE; bestDraw(2) = 3; library(0, 1); bestDraw(1) = NONE",
        "bestDraw(2) = 3; library(1, 1); bestDraw(2) = NONE; bestDraw(3) = 11");
    bounds.hold("32 0 if there is no REGION with a LIBRARY", "all(0, 9); close(); bestDraw(0) = 0; lay(0)",
        "judge() = 0; library(2, 1); bestDraw(0) = NONE; judge() = NONE");
    bounds.hold("32 of REGIONS in which a LIBRARY is", "library(0, 10); all(0, 10); all(1, 9999999); close()",
        "bestDraw(1) = 1; lay(1); judge() = 1; library(1, 1); judge() = NONE");
  }

  private static void widthCut() {
    // 100 by 34 is 2, by 33 is 3
    bounds.hold("32 ALL by SIZES, cut", "library(0, 34); library(0, 33); all(0, 100); close(); lay(1); judge() = 2",
        "set(0, 1); judge() = 3; bestDraw(1) = 1; lay(2); set(1, 1); judge() = 1; library(0, 35); bestDraw(1) = 1",
        "library(0, 51); bestDraw(1) = 8");
    bounds.hold("32 of like ones by what is cut", "library(0, 33); library(0, 34); library(0, 50); all(0, 100)",
        "close(); bestDraw(1) = 2; library(0, 51); bestDraw(1) = 8");
    bounds.hold("32 the greatest of REGIONS", "library(0, 10); library(1, 10); library(1, 20); all(0, 100)",
        "all(1, 190); close(); bestDraw(2) = 5; lay(2); set(1, 2); judge() = 10; set(1, 1); judge() = 19");
    bounds.hold("32 by ALL of the last closed YEAR", "library(0, 1); library(1, 1); all(0, 5); all(1, 7); close()",
        "all(0, 9); lay(2); set(1, 1); judge() = 7; close(); judge() = 9; close(); judge() = 0");
    bounds.hold("32 as great as can be", "library(0, 1); library(0, 99999); all(0, 9999999); close(); lay(1)",
        "judge() = 9999999; set(0, 1); judge() = 100; bestDraw(1) = 2");
  }

  private static void likeOnes() {
    String four = "4 * library(0, 10); all(0, 100); close();";
    bounds.hold("32 of like ones the set that has the least LIBRARY that just one of both has", four,
        "bestDraw(1) = 1; bestDraw(2) = 3; bestDraw(3) = 7; bestDraw(4) = 15");
    bounds.hold("32 most that are not DRAWN in the open YEAR", four, "draw(1); bestDraw(1) = 2; bestDraw(2) = 6",
        "bestDraw(3) = 14; bestDraw(4) = 15; draw(3); bestDraw(1) = 4; bestDraw(2) = 12; bestDraw(3) = 13; draw(7)",
        "bestDraw(2) = 9; bestDraw(1) = 8; draw(15); bestDraw(1) = 1; bestDraw(2) = 3; draw(5); bestDraw(2) = 10",
        "bestDraw(3) = 11");
    bounds.hold("32 DRAWN in the YEAR ahead alone", "2 * library(0, 10); draw(1); close(); bestDraw(1) = 2; draw(2)",
        "bestDraw(1) = 1; draw(0); bestDraw(1) = 1");
    bounds.hold("32 the WIDTH ahead of what is DRAWN", "library(0, 10); library(0, 11); all(0, 100); close()",
        "draw(2); bestDraw(1) = 2; library(0, 11); bestDraw(1) = 4");
  }

  private static void judgeRefused() {
    bounds.hold("33 MISSING", Lands.RICH, "set(1, 1); judge() = NONE; set(2, 2); judge() = 100; tear()",
        "judge() = MISSING; lay(0); judge() = NONE");
    bounds.hold("33 NO: no YEAR is closed", "lay(0); judge() = NO; close(); judge() = 0");
    bounds.hold("33 MISSING ahead of NO", "judge() = MISSING; lay(1); judge() = NO; tear(); judge() = MISSING",
        "close(); judge() = MISSING");
  }

  private static void judge() {
    bounds.hold("33 a number is no LIBRARY", "2 * library(0, 5); all(0, 50); close(); lay(1); judge() = 10",
        "set(0, 1); judge() = 10; set(0, 2); judge() = NONE; set(0, -1); judge() = NONE; set(0, 32); judge() = NONE",
        "set(0, 33); judge() = NONE; set(0, MIN); judge() = NONE; set(0, MAX); judge() = NONE; library(0, 5)",
        "set(0, 2); judge() = 10");
    bounds.hold("33 a number is there twice", "2 * library(0, 5); all(0, 50); close(); lay(2); judge() = NONE",
        "set(1, 1); judge() = 5; set(0, 1); judge() = NONE; lay(3); set(1, 1); judge() = NONE");
    bounds.hold("33 the least and the greatest ROW", Bounds.each(12, "library(1, 10)"), "all(1, 120); close()",
        "lay(0); judge() = NONE; lay(1); judge() = 12; lay(12); judge() = NONE", Bounds.each(12, "set(#, #)"),
        "judge() = 1; set(0, 11); judge() = NONE; set(11, 0); judge() = 1; set(11, 12); judge() = NONE");
    bounds.hold("33 NONE: it has none", "library(0, 5); library(1, 5); close(); lay(1); judge() = NONE; set(0, 1)",
        "judge() = NONE; lay(2); set(0, 1); judge() = 0");
  }

  private static void movedRefused() {
    bounds.hold("34 BEYOND: a YEAR", Lands.RICH, "moved(0, 0) = 0; moved(1, 0) = 0; moved(2, 0) = BEYOND",
        "moved(-1, 0) = BEYOND; moved(MIN, 0) = BEYOND; moved(MAX, 0) = BEYOND");
    bounds.hold("34 BEYOND: LIBRARY, EDITION", Lands.RICH, "moved(0, 102) = 0; moved(0, 103) = BEYOND",
        "moved(0, 300) = BEYOND; moved(0, 302) = BEYOND; moved(0, -1) = BEYOND; moved(0, -100) = BEYOND",
        "moved(0, 99) = BEYOND; moved(0, MIN) = BEYOND; moved(0, MAX) = BEYOND");
    bounds.hold("34 KIND: it wasn't DRAWN in that YEAR", Lands.RICH, "moved(0, 102) = 0; moved(0, 202) = KIND",
        "moved(1, 202) = KIND; close(); draw(4); moved(2, 202) = 0; moved(2, 102) = KIND; moved(1, 102) = 0");
    bounds.hold("34 BEYOND ahead of KIND", Lands.RICH, "moved(2, 202) = BEYOND; moved(0, 203) = BEYOND",
        "moved(0, 202) = KIND");
  }

  private static void movedMany() {
    bounds.hold("35 BEYOND: a YEAR", Lands.RICH, "movedMany(0) = 0; movedMany(1) = 0; movedMany(2) = BEYOND",
        "movedMany(-1) = BEYOND; movedMany(MIN) = BEYOND; movedMany(MAX) = BEYOND; close(); movedMany(2) = 0",
        "movedMany(3) = BEYOND");
    bounds.hold("35 without any LOANS nothing is MOVED", "library(0, 1); library(0, 1); 2 * edition(0, 1, 0)",
        "draw(3); moved(0, 0) = 0; movedMany(0) = 0",
        // 25 times 25 by 50 is 12, its root 3: above 24
        "lent(0, 0, 25); lent(1, 1, 25); moved(0, 0) = 1; movedMany(0) = 2; close(); put(0, 0, 0, 0)",
        "put(0, 1, 1, 0); moved(0, 0) = 0; movedMany(0) = 0");
    bounds.hold("35 of no LIBRARY, of no EDITION", "movedMany(0) = 0; library(0, 1); draw(1); movedMany(0) = 0",
        "edition(0, 1, 0); movedMany(0) = 0; lent(0, 0, 9); movedMany(0) = 0");
  }

  private static void movedOfAll() {
    String all = "11 * library(0, 1); library(3, 1); 30 * edition(0, 1, 0); draw(4095);";
    // e is 0, 3 pairs: above 3
    bounds.hold("35 of all LIBRARIES, of all EDITIONS", all, "lent(0, 0, 99); lent(5, 5, 99); lent(11, 29, 1)",
        "movedMany(0) = 2; close(); put(0, 11, 29, 99); movedMany(0) = 3; moved(0, 1129) = 1; moved(0, 1128) = 0",
        "moved(0, 1130) = BEYOND; moved(0, 1200) = BEYOND; look(11, 3) = 0; span(0, 29, 1) = 0; all(3, 9)",
        "lent(11, 29, 4); look(11, 3) = 4; estimate(1, 29, 1) = 9; span(1, 29, 1) = 15; span(1, 29, 0) = 4");
  }

  private static final String TWO = "2 * library(0, 1); 2 * edition(0, 1, 0); draw(3);";

  private static void movedAbove() {
    // of 48 LOANS e is 24 times 24 by 48, that is 12, its root 3: 12 and 3 times 4
    bounds.hold("34 if k is above e and Z times (s and 1)", TWO, "lent(0, 0, 24); lent(1, 1, 24); moved(0, 0) = 0",
        "moved(0, 101) = 0; movedMany(0) = 0",
        // of 49 e is 25 times 25 by 49, that is 12, and 11
        "lent(0, 0, 1); moved(0, 0) = 1; moved(0, 101) = 1; movedMany(0) = 2; moved(0, 1) = 0; moved(0, 100) = 0");
    // e is 40 times 10 by 50, cut 8: 8 and 3 times 3
    bounds.hold("34 a single one", TWO, "lent(0, 0, 40); lent(1, 1, 10); movedMany(0) = 1; moved(0, 101) = 1",
        "moved(0, 0) = 0");
    bounds.hold("34 as KNOWN now", TWO, "lent(0, 0, 24); lent(1, 1, 24); close(); put(0, 0, 0, 25)",
        "movedMany(0) = 2; put(0, 0, 0, 24); movedMany(0) = 0");
  }

  /** EDITION 0 with k LOANS in LIBRARY 0 and more elsewhere, so that its e is near a square. */
  private static String moved(int k, int ofOther, int elsewhere) {
    return TWO + "lent(0, 0, " + k + "); lent(0, 1, " + ofOther + "); lent(1, 0, " + elsewhere + "); lent(1, 1, 100);";
  }

  private static void movedRoots() {
    // 4 times 4 by 105, then 5 times 5 by 106: above 0 and 3 times 1
    bounds.hold("34 e is 0, s is 0: 3 and 4", moved(3, 1, 1), "moved(0, 0) = 0; lent(0, 0, 1); moved(0, 0) = 1");
    // 11 times 11 by 115, then 12 times 12 by 116: above 1 and 3 times 2
    bounds.hold("34 e is 1, s is 1: 7 and 8", moved(7, 4, 4), "moved(0, 0) = 0; lent(0, 0, 1); moved(0, 0) = 1");
    // 16 times 16 by 124, then 17 times 17 by 125: above 2 and 3 times 2
    bounds.hold("34 e is 2, s is 1: 8 and 9", moved(8, 8, 8), "moved(0, 0) = 0; lent(0, 0, 1); moved(0, 0) = 1");
    // 21 times 21 by 133, then 22 times 22 by 134: above 3 and 3 times 2
    bounds.hold("34 e is 3, s is 1: 9 and 10", moved(9, 12, 12), "moved(0, 0) = 0; lent(0, 0, 1); moved(0, 0) = 1");
    // 24 times 23 by 134, then 25 times 24 by 135: above 4 and 3 times 3
    bounds.hold("34 e is 4, s is 2: 13 and 14", moved(13, 11, 10), "moved(0, 0) = 0; lent(0, 0, 1); moved(0, 0) = 1");
  }

  private static void movedPairs() {
    String pairs = "2 * library(0, 1); 20 * edition(0, 1, 0); draw(3);";
    // e is 0 as long as k times k is less than all: above 3 with 7 pairs, above 4 with 8
    bounds.hold("34 Z of 7 pairs, of 8", pairs, "lent(0, 0, 4); lent(1, 1, 90); 1 * lent(1, 2, 1); lent(1, 3, 1)",
        "lent(1, 4, 1); lent(1, 5, 1); lent(1, 6, 1); moved(0, 0) = 1; lent(1, 7, 1); moved(0, 0) = 0",
        "lent(0, 0, 1); moved(0, 0) = 1; close(); put(0, 0, 0, 4); moved(0, 0) = 0; put(0, 1, 7, 0)",
        "moved(0, 0) = 1");
    bounds.hold("34 Z of 15 pairs, of 16", pairs,
        "lent(0, 0, 5); lent(1, 19, 90);" + Bounds.each(14, "lent(1, #, 1)"), "moved(0, 0) = 0; close()",
        "put(0, 1, 0, 0); moved(0, 0) = 1; put(0, 0, 0, 6); moved(0, 0) = 1; put(0, 1, 0, 1); moved(0, 0) = 1",
        "put(0, 0, 0, 5); moved(0, 0) = 0");
  }

  private static void spanRefused() {
    bounds.hold("36 BEYOND: a YEAR", Lands.RICH, "span(0, 2, 0) = 133; span(1, 2, 0) = 0; span(2, 2, 0) = 0 BEYOND",
        "span(-1, 2, 0) = 0 BEYOND; span(MIN, 2, 0) = 0 BEYOND; span(MAX, 2, 0) = 0 BEYOND");
    bounds.hold("36 BEYOND: EDITION", Lands.RICH, "span(0, 2, 0) = 133; span(0, 3, 0) = 0 BEYOND",
        "span(0, -1, 0) = 0 BEYOND; span(0, MIN, 0) = 0 BEYOND; span(0, MAX, 0) = 0 BEYOND");
    bounds.hold("36 NO: what", Lands.RICH, "span(0, 2, 0) = 133; span(0, 2, 1) = 433; span(0, 2, 2) = 0 NO",
        "span(0, 2, -1) = 0 NO; span(0, 2, MIN) = 0 NO; span(0, 2, MAX) = 0 NO");
    bounds.hold("36 BEYOND ahead of NO", Lands.RICH, "span(2, 2, 2) = 0 BEYOND; span(0, 3, -1) = 0 BEYOND",
        "span(0, 2, 2) = 0 NO");
  }

  private static void span() {
    bounds.hold("36 of each REGION with LOANS: without any", Lands.SMALL, "all(0, 100); all(1, 100)",
        "span(0, 0, 0) = 0; span(0, 0, 1) = 0; lent(0, 0, 1); span(0, 0, 0) = 0; span(0, 0, 1) = 300");
    // of 10: c 0: 0 and 1; c 1, s 1: 0 and 3; c 3, s 1: 2 and 5; c 4, s 2: 2 and 7; c 9, s 3: 6 and 13
    String ten = "library(2, 5); draw(1); 2 * edition(0, 1, 0); all(2, 1000);";
    int[][] spans = {{0, 0, 100}, {1, 0, 300}, {2, 100, 400}, {3, 200, 500}, {4, 200, 700}, {5, 300, 800},
      {8, 600, 1100}, {9, 600, 1300}, {10, 700, 1400}};
    for (int[] s : spans) {
      String lent = (s[0] > 0 ? "lent(0, 0, " + s[0] + ");" : "") + (s[0] < 10 ? "lent(0, 1, " + (10 - s[0]) + ");" : "");
      bounds.hold("36 the greatest whole number whose square is c at most: c is " + s[0], ten, lent,
          "span(0, 0, 0) = " + s[1] + "; span(0, 0, 1) = " + s[2]);
    }
    bounds.hold("36 by ALL of that YEAR", Lands.SMALL, "all(0, 100); lent(0, 0, 4); close(); all(0, 200)",
        "lent(0, 0, 4); close(); all(0, 300); lent(0, 0, 4); span(0, 0, 0) = 50; span(1, 0, 0) = 100",
        "span(2, 0, 0) = 150; span(2, 0, 1) = 525; span(1, 0, 1) = 350");
    bounds.hold("36 cut", Lands.writers(2), "lent(0, 0, 2); lent(0, 1, 1); all(0, 2); span(0, 0, 0) = 0",
        "span(0, 0, 1) = 2; all(0, 3); span(0, 0, 0) = 1; span(0, 0, 1) = 4; all(0, 0); span(0, 0, 1) = 0");
    // in each REGION 2 by 3 and 8 by 3 of ALL
    bounds.hold("36 together, each cut", "library(0, 1); library(3, 1); 2 * edition(0, 1, 0); draw(3); all(0, 2)",
        "all(3, 2); lent(0, 0, 2); lent(0, 1, 1); span(0, 0, 1) = 2; lent(1, 0, 2); span(0, 0, 1) = 6",
        "lent(1, 1, 1); span(0, 0, 1) = 4; span(0, 0, 0) = 0; all(0, 3); span(0, 0, 0) = 1");
    bounds.hold("36 as great as can be", "library(0, 1); draw(1); edition(0, 1, 0); edition(0, 2, 0)",
        "all(0, 9999999); lent(0, 0, 1); close(); put(0, 0, 0, 9999999)",
        // s is 3162 from 9998244 on, its square, and 3161 below
        "span(0, 0, 0) = 9996837; span(0, 0, 1) = 10003162; put(0, 0, 0, 9998244); span(0, 0, 0) = 9996836",
        "span(0, 0, 1) = 10003162; put(0, 0, 0, 9998243); span(0, 0, 0) = 9996837; span(0, 0, 1) = 10003161",
        "put(0, 0, 0, 1); span(0, 0, 1) = 29999997");
  }

  private static void count() {
    bounds.hold("37 NO: what", Lands.RICH, "count(0) = 1; count(1) = 3; count(2) = 3; count(3) = 3; count(4) = 4",
        "count(5) = 2; count(6) = 6; count(7) = 5; count(8) = 2; count(9) = 2; count(10) = 2; count(11) = NO",
        "count(-1) = NO; count(MIN) = NO; count(MAX) = NO");
    bounds.hold("37 none, one, two: each by its own call", "count(1) = 0; library(0, 1); count(1) = 1",
        "library(0, 1); count(1) = 2; count(10) = 0; draw(1); count(10) = 1; draw(3); count(10) = 2; count(2) = 0",
        "count(8) = 0; edition(0, 1, 0); count(2) = 1; count(8) = 1; edition(0, 1, 0); count(2) = 2; count(8) = 2",
        "join(0, 0, 1); count(8) = 1; count(2) = 2; count(3) = 0; count(9) = 0; person(1, 0, 0); count(3) = 1",
        "count(9) = 1; person(1, 0, 0); count(9) = 2; join(1, 0, 1); count(9) = 1; count(3) = 2; count(4) = 0",
        "share(0, 0, 1); count(4) = 1; share(0, 0, 1); count(4) = 2; count(6) = 0; lent(0, 0, 1); count(6) = 1",
        "lent(1, 0, 1); count(6) = 2; count(5) = 0; tape who 1; count(7) = 5; rule(0, 1); count(5) = 1",
        "count(7) = 0; tape w; count(7) = 1; close(); count(0) = 1; close(); count(0) = 2");
    bounds.hold("37 as many as can be", "12 * library(0, 1); draw(4095); 30 * edition(0, 1, 0)",
        "20 * person(1, 0, 0); 60 * share(0, 0, 1)", Bounds.each(12, "tape who 1; rule(0, 1)"), "30 * feed(0, 4)",
        "40 * close(); count(0) = 40; count(1) = 12; count(2) = 30; count(3) = 20; count(4) = 60; count(5) = 12",
        "count(6) = 0; count(7) = 120; count(8) = 30; count(9) = 20; count(10) = 12; count(11) = NO");
  }

  /** Calls that change all that there is in the rich land. */
  private static final String ALL_ELSE = "wipe(); tape most 50 if year<9; rule(0, 50); tape late 1; rule(0, 50);"
      + "tape who title; rule(0, 50); put(0, 1, 2, 9); put(0, 1, 0, 1); lent(0, 1, 4); library(3, 9);"
      + "edition(2, 2, 1); person(5, 2, -7); share(3, 30, 100); share(1, 4, 9);"
      + "heir(2, 3, 30); heir(0, 1, 10); heir(0, 2, 20); died(3, -3); died(0, -2);"
      + "join(0, 1, 0); person(8, 0, -100); join(1, 1, 4); all(0, 9); all(1, 70); fund(300);"
      + "close(); draw(13); lent(3, 3, 4); close(); fund(8);";

  /** Each number that can be told anew: as it was once kept, and told anew behind that. */
  private static void keptNumbers() {
    String land = Lands.SMALL + "edition(0, 1, 0); person(1, 0, -100); library(0, 10); image();";
    bounds.hold("39 a BOOK, a ONE", land, "join(0, 0, 1) = 0; join(1, 0, 1) = 0; count(8) = 1; count(9) = 1; back()",
        "editionOf(1, 3) = 1; personOf(1, 4) = 1; count(8) = 2; count(9) = 2");
    bounds.hold("39 DIED, PARTS of HEIRS", land, "died(0, -1) = -100; heir(0, 1, 100) = 0; back(); personOf(0, 3) = -100",
        "personOf(0, 5) = 0; heir(0, 1, 1) = 0; died(0, 0) = -100");
    bounds.hold("39 DRAWN ones, ALL, pence", land, "draw(2) = 1; all(0, 5) = 0; fund(6) = 0; back(); year(0, 0) = 1",
        "all(0, 5) = 0; fund(6) = 0; draw(3) = 2");
    bounds.hold("39 LOANS of an ENTRY", Lands.SMALL, "lent(0, 0, 3); image(); lent(0, 0, 4) = 7; back(); known(0, 0, 0) = 3",
        "lent(0, 0, 1) = 4; count(6) = 1");
    bounds.hold("39 what was PARTED, THE REST", land, "fund(6); close(); year(0, 6) = 6; year(0, 8) = 6; back()",
        "year(0, 6) = 0; year(0, 8) = 0; close(); year(0, 6) = 0; year(1, 6) = 0");
    // of YEAR 0 PERSON 0 lacks 50
    bounds.hold("39 what was paid, and paid BACK", Lands.writers(2), "tape late 1; rule(0, 9)", Lands.lent(1, 1),
        "fund(100); close(); put(0, 0, 1, 0); fund(60); image(); close() = 1; year(1, 7) = 50; paid(0, 0, 0) = 100; back()",
        "year(1, 7) = 0; paid(0, 0, 0) = 50; paid(0, 0, 3) = 50; close() = 1; year(1, 7) = 50; paid(0, 0, 0) = 100",
        "paid(1, 0, 3) = 50; year(1, 6) = 10");
    bounds.hold("39 what comes in the place of what is gone", land, "library(1, 5) = 2; edition(1, 2, -3) = 2",
        "person(2, 1, -4) = 2; share(1, 3, 7) = 1; tape most 5 if 1; rule(0, 9) = 0; lent(0, 1, 4); back()",
        "library(2, 6) = 2; look(2, 0) = 2; look(2, 1) = 6; edition(3, 4, -5) = 2; editionOf(2, 0) = 3; editionOf(2, 1) = 4",
        "person(5, 2, -6) = 2; personOf(2, 0) = 5; personOf(2, 2) = -6; share(0, 11, 0) = NO; share(1, 11, 8) = 1",
        "shareOf(1, 1) = 1; shareOf(1, 3) = 8; tape least 6; rule(1, 9) = 0; why(3, 0, -1) = NONE; why(4, 0, -1) = NONE",
        "lent(0, 0, 1) = 1; known(0, 1, 0) = 0; close(); why(4, 1, -1) = 0; says(4, 1, -1) = 6");
  }

  private static void image() {
    bounds.hold("39 MISSING", "back() = MISSING; library(0, 1); back() = MISSING; count(1) = 1; image() = 0",
        "library(0, 1); back() = 0; count(1) = 1; back() = 0");
    bounds.hold("39 MISSING in a land of much", Lands.SMALL, "lay(2); set(0, 4); tape who; lent(0, 0, 1)",
        "back() = MISSING; close(); back() = MISSING");
    bounds.hold("38 the open YEAR", "image() = 0; close(); image() = 1; close(); back() = 1; 39 * close()",
        "image() = 40; back() = 40; close() = FULL");
    bounds.alike("39 all is again as it was kept", Lands.RICH + "image(); wipe(); tear()",
        Lands.RICH + "image();" + ALL_ELSE + "back(); wipe(); tear()");
    bounds.alike("39 and again", Lands.RICH + "image(); wipe(); tear()",
        Lands.RICH + "image();" + ALL_ELSE + "back();" + ALL_ELSE + "close(); back(); wipe(); tear()");
    bounds.hold("38 all else can be done behind it", Lands.RICH, "image()", ALL_ELSE, "count(0) = 3; back() = 1",
        "count(0) = 1");
    bounds.hold("38 but THE ROW, THE TAPE, status()", "lay(2); set(1, 7); tape who; image() = 0; lay(3); set(1, 8)",
        "tape  1; tear(); count(99) = NO; back() = 0; row(0) = 0 MISSING; count(7) = 5; rule(0, 1) = 0",
        "status(-7) = 1; status(-2) = 1; back() = 0; count(5) = 0; lay(1); back() = 0; row(0) = 0; tear() = 1");
    bounds.hold("38 the latest image alone", "image(); library(0, 1); image(); library(0, 1); back(); count(1) = 1",
        "back(); count(1) = 1");
    bounds.hold("38 an empty land is kept, too", "image()", Lands.SMALL, "lent(0, 0, 1); tape who 1; rule(0, 1)",
        "fund(9); all(0, 9); close(); back() = 0", Bounds.eachOf("count(#) = 0", 0, 1, 2, 3, 4, 5, 6, 7, 8, 9, 10),
        Bounds.each(9, "year(0, #) = 0"), "library(0, 1) = 0; draw(1) = 1; edition(0, 1, 0) = 0",
        "person(1, 0, 0) = 0; share(0, 0, 1) = 0; lent(0, 0, 1) = 1; personOf(0, 3) = -100; known(0, 0, 0) = 1");
    bounds.hold("39 a full land comes again", "12 * library(0, 1); draw(4095); 30 * edition(0, 1, 0)",
        "20 * person(1, 0, 0); 60 * share(0, 0, 1)", Bounds.each(12, "tape who 1; rule(0, 1)"), "image(); close()",
        "back() = 0; library(0, 1) = FULL; edition(0, 1, 0) = FULL; person(1, 0, 0) = FULL; share(1, 0, 1) = FULL",
        "tape who 1; rule(0, 1) = FULL; lent(11, 29, 1) = 1; image(); lent(11, 29, 1) = 2; back()",
        "lent(11, 29, 3) = 4");
    bounds.hold("39 back in the last YEAR", "39 * close(); fund(4); image() = 39; close() = 0; close() = FULL",
        "back() = 39; year(39, 8) = 0; year(40, 5) = 0 BEYOND; close() = 0; year(39, 8) = 4; close() = FULL");
  }
}
