/** Promises 1 to 9, each sentence that names a bound, on both its sides. */
public final class LandBoundsTest {
  private static final Due due = new Due("LandBoundsTest");
  private static final Bounds bounds = new Bounds(due);

  public static void main(String[] args) {
    newObject();
    libraries();
    draws();
    drawsOfYears();
    all();
    lent();
    lentFull();
    entries();
    entriesFull();
    put();
    putRefused();
    known();
    look();
    year();
    due.end();
  }

  private static void newObject() {
    bounds.hold("1 nothing is there, beside one of each", Bounds.each(11, "count(#) = 0"),
        Bounds.each(9, "year(0, #) = 0"), Lands.SMALL, "lent(0, 0, 1); tape late 1; rule(0, 1); tape w; all(0, 1)",
        "fund(1)", Bounds.eachOf("count(#) = 1", 1, 2, 3, 4, 5, 6, 7, 8, 9, 10), "count(0) = 0",
        Bounds.eachOf("year(0, #) = 1", 0, 1, 5), Bounds.eachOf("year(0, #) = 0", 2, 3, 4, 6, 7, 8));
    bounds.hold("1 no LIBRARY, no EDITION, no PERSON, no SHARE, no RULE", "look(0, 0) = BEYOND",
        "known(0, 0, 0) = 0 BEYOND; editionOf(0, 0) = 0 BEYOND; personOf(0, 0) = 0 BEYOND; shareOf(0, 0) = BEYOND",
        "says(0, 0, 0) = 0 BEYOND; close(); gain(0, 0, 0) = 0 BEYOND; paid(0, 0, 0) = 0 BEYOND");
    bounds.hold("1 THE TAPE is empty", "count(7) = 0; wipe() = 0; rule(0, 1) = FAULT 0; tape l; wipe() = 1");
    bounds.hold("1 THE ROW is missing", "row(0) = 0 MISSING; tear() = 0; lay(0); row(0) = 0 BEYOND; tear() = 1");
    bounds.hold("1 no image", "back() = MISSING; image() = 0; back() = 0");
    bounds.hold("1 no call was refused", Bounds.eachOf("status(#) = 0", -8, -7, -6, -5, -4, -3, -2));
  }

  private static void libraries() {
    bounds.hold("2 REGION (0 .. 3)", "library(0, 1) = 0; library(3, 1) = 1; look(0, 0) = 0; look(1, 0) = 3");
    bounds.hold("2 NO: REGION", Lands.RICH, "library(-1, 1) = NO; library(4, 1) = NO; library(MIN, 1) = NO",
        "library(MAX, 1) = NO; library(3, 1) = 3");
    bounds.hold("2 SIZE (1 .. 99999)", "library(0, 1) = 0; library(0, 99999) = 1; look(0, 1) = 1",
        "look(1, 1) = 99999");
    bounds.hold("2 NO: SIZE", Lands.RICH, "library(0, 0) = NO; library(0, 100000) = NO; library(0, -1) = NO",
        "library(0, MIN) = NO; library(0, MAX) = NO");
    bounds.hold("2 LIBRARIES 0 .. 11", "11 * library(1, 5); count(1) = 11; library(2, 7) = 11; count(1) = 12",
        "look(11, 0) = 2; look(11, 1) = 7; library(2, 7) = FULL; library(0, 1) = FULL; count(1) = 12");
    bounds.hold("2 NO ahead of FULL", "12 * library(1, 5); library(4, 1) = NO; library(0, 0) = NO",
        "library(3, 1) = FULL");
  }

  private static void draws() {
    bounds.hold("3 NO: a bit beyond, of no LIBRARY", "draw(0) = 0; draw(1) = NO; draw(MIN) = NO; draw(-1) = NO");
    bounds.hold("3 NO: a bit beyond, of two", "2 * library(0, 1); draw(3) = 2; year(0, 0) = 3; draw(4) = NO",
        "draw(7) = NO; draw(MIN) = NO; draw(MAX) = NO; draw(-1) = NO; year(0, 0) = 3; draw(2) = 1; draw(0) = 0",
        "year(0, 0) = 0; count(10) = 0");
    bounds.hold("3 NO: a bit beyond, of twelve", "12 * library(0, 1); draw(4095) = 12; draw(4096) = NO",
        "draw(8191) = NO; draw(2048) = 1; look(11, 2) = 1; look(10, 2) = 0");
    bounds.hold("3 NO: there were ENTRIES of that YEAR", "2 * library(0, 1); edition(0, 1, 0); draw(1) = 1",
        "draw(3) = 2; lent(1, 0, 1); draw(1) = NO; draw(3) = NO; draw(0) = NO; draw(4) = NO; year(0, 0) = 3");
    bounds.hold("3 ENTRIES of a closed YEAR are none of the open one", "2 * library(0, 1); edition(0, 1, 0)",
        "draw(1); lent(0, 0, 1); draw(2) = NO; close(); draw(2) = 1; put(0, 0, 0, 5); draw(3) = 2; lent(0, 0, 1)",
        "draw(2) = NO");
    bounds.hold("3 NO in a land of everything", Lands.RICH, "draw(0) = NO; draw(3) = NO; draw(8) = NO; close()",
        "draw(8) = NO; draw(7) = 3");
  }

  private static void drawsOfYears() {
    bounds.hold("3 till then those of the YEAR ahead (none at first)", "2 * library(0, 1); edition(0, 1, 0)",
        "year(0, 0) = 0; count(10) = 0; lent(0, 0, 1) = KIND; draw(2); close(); year(1, 0) = 2; lent(1, 0, 1) = 1",
        "close(); year(2, 0) = 2; draw(1); year(2, 0) = 1; year(1, 0) = 2; close(); year(3, 0) = 1; year(0, 0) = 2");
    bounds.hold("3 none DRAWN is told, too", "library(0, 1); draw(1); close(); draw(0) = 0; close(); year(2, 0) = 0",
        "year(0, 0) = 1; look(0, 2) = 0; count(10) = 0");
    bounds.hold("3 a LIBRARY that comes later isn't DRAWN", "library(0, 1); draw(1); library(0, 1); look(1, 2) = 0",
        "close(); look(1, 2) = 0; look(0, 2) = 1");
  }

  private static void all() {
    bounds.hold("4 BEYOND: REGION", Lands.RICH, "all(0, 1) = 70; all(3, 1) = 0; all(-1, 1) = BEYOND",
        "all(4, 1) = BEYOND; all(MIN, 1) = BEYOND; all(MAX, 1) = BEYOND");
    bounds.hold("4 ALL (0 .. 9999999; 0 till told)", "all(2, 0) = 0; all(2, 9999999) = 0; year(0, 3) = 9999999",
        "all(2, 0) = 9999999; year(0, 3) = 0");
    bounds.hold("4 NO: ALL", Lands.RICH, "all(0, -1) = NO; all(0, 10000000) = NO; all(0, MIN) = NO",
        "all(0, MAX) = NO; all(0, 5) = 70");
    bounds.hold("4 BEYOND ahead of NO", Lands.RICH, "all(4, -1) = BEYOND; all(-1, 10000000) = BEYOND",
        "all(3, -1) = NO");
    bounds.hold("4 0 till told in the next YEAR, too", "all(0, 6); all(3, 7); close(); all(0, 8) = 0; all(3, 9) = 0",
        "year(0, 1) = 6; year(0, 4) = 7");
  }

  private static void lent() {
    bounds.hold("5 LOANS (1 .. 99999)", Lands.SMALL, "lent(0, 0, 1) = 1; lent(0, 0, 99999) = 100000");
    bounds.hold("5 NO: LOANS", Lands.RICH, "lent(1, 0, 0) = NO; lent(1, 0, 100000) = NO; lent(1, 0, -1) = NO",
        "lent(1, 0, MIN) = NO; lent(1, 0, MAX) = NO; lent(1, 0, 1) = 7");
    bounds.hold("5 BEYOND: LIBRARY", Lands.RICH, "lent(0, 0, 1) = 1; lent(3, 0, 1) = BEYOND",
        "lent(-1, 0, 1) = BEYOND; lent(MIN, 0, 1) = BEYOND; lent(MAX, 0, 1) = BEYOND");
    bounds.hold("5 BEYOND: EDITION", Lands.RICH, "lent(1, 2, 1) = 1; lent(1, 3, 1) = BEYOND",
        "lent(1, -1, 1) = BEYOND; lent(1, MIN, 1) = BEYOND; lent(1, MAX, 1) = BEYOND");
    bounds.hold("5 KIND: the LIBRARY isn't DRAWN", Lands.RICH, "lent(1, 0, 1) = 7; lent(2, 0, 1) = KIND");
    bounds.hold("5 of several the first", Lands.RICH, "lent(3, 0, 0) = BEYOND; lent(2, 3, 0) = BEYOND",
        "lent(2, 0, 0) = KIND; lent(2, 0, 100000) = KIND; lent(0, 0, 0) = NO");
    bounds.hold("5 LOANS are 0 at first", Lands.SMALL, "known(0, 0, 0) = 0; look(0, 3) = 0; lent(0, 0, 1) = 1",
        "known(0, 0, 0) = 1; look(0, 3) = 1");
    bounds.hold("5 of the open YEAR alone", Lands.SMALL, "lent(0, 0, 5); close(); lent(0, 0, 2) = 2",
        "known(0, 0, 1) = 5");
  }

  private static void lentFull() {
    bounds.hold("5 9999999 at most", Lands.SMALL, "100 * lent(0, 0, 99999); known(0, 0, 0) = 9999900",
        "lent(0, 0, 100) = FULL; lent(0, 0, 99999) = FULL; lent(0, 0, 99) = 9999999; lent(0, 0, 1) = FULL",
        "lent(0, 0, 0) = NO; lent(0, 0, 100000) = NO; known(0, 0, 0) = 9999999");
    bounds.hold("5 each of them 9999999 at most", Lands.SMALL, "edition(0, 2, 0); 100 * lent(0, 0, 99999)",
        "lent(0, 1, 99999) = 99999; close(); lent(0, 0, 99999) = 99999");
  }

  private static void entries() {
    bounds.hold("5 told again in the same open YEAR it changes its ENTRY", Lands.SMALL, "count(6) = 0",
        "lent(0, 0, 3); count(6) = 1; lent(0, 0, 3) = 6; count(6) = 1; close(); lent(0, 0, 1); count(6) = 2");
    bounds.hold("6 told again in the same open YEAR it changes its ENTRY", Lands.SMALL, "lent(0, 0, 3); close()",
        "put(0, 0, 0, 4) = 3; count(6) = 2; put(0, 0, 0, 4) = 4; put(0, 0, 0, 3) = 4; count(6) = 2",
        "known(0, 0, 0) = 3; close(); put(0, 0, 0, 3) = 3; count(6) = 3");
    bounds.hold("5 of another EDITION, of another LIBRARY it is another ENTRY", "2 * library(0, 1)",
        "2 * edition(0, 1, 0); draw(3); lent(0, 0, 1); lent(0, 1, 1) = 1; lent(1, 0, 1) = 1; count(6) = 3");
  }

  /** 360 ENTRIES of one YEAR, then room for 40. */
  private static String entriesTold(int more) {
    StringBuilder text = new StringBuilder("12 * library(0, 5); 30 * edition(0, 1, 0); draw(4095);");
    for (int i = 0; i < 360; i++) {
      text.append("lent(").append(i / 30).append(", ").append(i % 30).append(", 1);");
    }
    text.append("close();");
    for (int i = 0; i < more; i++) {
      text.append("lent(").append(i / 30).append(", ").append(i % 30).append(", 2);");
    }
    return text.toString();
  }

  private static void entriesFull() {
    bounds.hold("5 ENTRIES (400 at most)", entriesTold(39), "count(6) = 399; lent(11, 29, 1) = 1; count(6) = 400",
        "lent(11, 28, 1) = FULL; lent(11, 29, 2) = 3; lent(11, 28, 0) = NO; count(6) = 400");
    bounds.hold("6 ENTRIES (400 at most)", entriesTold(39), "put(0, 11, 29, 7) = 1; count(6) = 400",
        "put(0, 11, 28, 7) = FULL; put(0, 11, 29, 8) = 7; put(0, 11, 28, -1) = NO; known(0, 1128, 1) = 1");
    bounds.hold("5 with 400 ENTRIES the next YEAR has no room", entriesTold(40), "close(); lent(0, 0, 1) = FULL",
        "put(1, 0, 0, 1) = FULL; put(0, 0, 0, 1) = FULL; draw(1) = 1; known(1, 109, 2) = 2");
  }

  private static void put() {
    bounds.hold("6 LOANS become n (0 .. 9999999)", Lands.SMALL, "lent(0, 0, 1); close(); put(0, 0, 0, 9999999) = 1",
        "put(0, 0, 0, 0) = 9999999; put(0, 0, 0, 1) = 0; known(0, 0, 1) = 1");
    bounds.hold("6 NO: LOANS", Lands.RICH, "put(0, 0, 0, -1) = NO; put(0, 0, 0, 10000000) = NO",
        "put(0, 0, 0, MIN) = NO; put(0, 0, 0, MAX) = NO; put(0, 0, 0, 1) = 12");
    bounds.hold("6 BEYOND: a YEAR that isn't closed", Lands.RICH, "put(1, 0, 0, 1) = BEYOND",
        "put(-1, 0, 0, 1) = BEYOND; put(2, 0, 0, 1) = BEYOND; put(MIN, 0, 0, 1) = BEYOND",
        "put(MAX, 0, 0, 1) = BEYOND; put(0, 0, 0, 1) = 12; close(); put(1, 0, 0, 1) = 0; put(2, 0, 0, 1) = BEYOND");
  }

  private static void putRefused() {
    bounds.hold("6 BEYOND: LIBRARY, EDITION", Lands.RICH, "put(0, 1, 2, 1) = 0; put(0, 3, 0, 1) = BEYOND",
        "put(0, -1, 0, 1) = BEYOND; put(0, 0, 3, 1) = BEYOND; put(0, 0, -1, 1) = BEYOND; put(0, MAX, 0, 1) = BEYOND",
        "put(0, MIN, 0, 1) = BEYOND; put(0, 0, MAX, 1) = BEYOND; put(0, 0, MIN, 1) = BEYOND");
    bounds.hold("6 KIND: it wasn't DRAWN in that YEAR", "2 * library(0, 1); edition(0, 1, 0); draw(1); close()",
        "draw(2); close(); put(0, 0, 0, 1) = 0; put(0, 1, 0, 1) = KIND; put(1, 1, 0, 1) = 0; put(1, 0, 0, 1) = KIND");
    bounds.hold("6 of several the first", Lands.RICH, "put(1, 2, 0, -1) = BEYOND; put(0, 3, 0, -1) = BEYOND",
        "put(0, 2, 3, -1) = BEYOND; put(0, 2, 0, -1) = KIND; put(0, 0, 0, -1) = NO");
    bounds.hold("6 LOANS that were never told", Lands.SMALL, "close(); put(0, 0, 0, 0) = 0; count(6) = 1",
        "put(0, 0, 0, 1) = 0");
  }

  private static void known() {
    bounds.hold("7 a YEAR (0 .. the open one)", Lands.RICH, "known(0, 0, 1) = 12; known(1, 100, 1) = 6",
        "known(2, 0, 1) = 0 BEYOND; known(-1, 0, 1) = 0 BEYOND; known(MIN, 0, 1) = 0 BEYOND",
        "known(MAX, 0, 1) = 0 BEYOND");
    bounds.hold("7 as KNOWN in a YEAR (0 .. the open one)", Lands.RICH, "known(0, 0, 0) = 10; known(0, 0, 1) = 12",
        "known(0, 0, 2) = 0 BEYOND; known(0, 0, -1) = 0 BEYOND; known(0, 0, MIN) = 0 BEYOND",
        "known(0, 0, MAX) = 0 BEYOND");
    bounds.hold("7 BEYOND: LIBRARY, EDITION", Lands.RICH, "known(1, 202, 1) = 0; known(1, 203, 1) = 0 BEYOND",
        "known(1, 3, 1) = 0 BEYOND; known(1, 99, 1) = 0 BEYOND; known(1, 300, 1) = 0 BEYOND",
        "known(1, -1, 1) = 0 BEYOND; known(1, -99, 1) = 0 BEYOND; known(1, -100, 1) = 0 BEYOND",
        "known(1, MIN, 1) = 0 BEYOND; known(1, MAX, 1) = 0 BEYOND");
    bounds.hold("7 the latest ENTRY told in that YEAR or ahead of it (0: none)", Lands.SMALL, "close(); close()",
        "put(0, 0, 0, 5); close(); close(); put(0, 0, 0, 7); close(); known(0, 0, 0) = 0; known(0, 0, 1) = 0",
        "known(0, 0, 2) = 5; known(0, 0, 3) = 5; known(0, 0, 4) = 7; known(0, 0, 5) = 7");
    bounds.hold("7 as KNOWN ahead of its own YEAR", Lands.SMALL, "close(); lent(0, 0, 3); known(1, 0, 0) = 0",
        "known(1, 0, 1) = 3; known(0, 0, 1) = 0");
    bounds.hold("7 put right more than once, the older YEAR last", Lands.SMALL, "lent(0, 0, 1); close()",
        "lent(0, 0, 2); close(); put(1, 0, 0, 3); put(0, 0, 0, 4); known(0, 0, 1) = 1; known(0, 0, 2) = 4",
        "known(1, 0, 1) = 2; known(1, 0, 2) = 3; known(2, 0, 2) = 0");
  }

  private static void look() {
    bounds.hold("8 BEYOND: LIBRARY", Lands.RICH, "look(2, 1) = 5; look(3, 1) = BEYOND; look(-1, 1) = BEYOND",
        "look(MIN, 1) = BEYOND; look(MAX, 1) = BEYOND; library(3, 8); look(3, 1) = 8; look(4, 1) = BEYOND");
    bounds.hold("8 NO: what", Lands.RICH, "look(1, 0) = 1; look(1, 1) = 20; look(1, 2) = 1; look(1, 3) = 6",
        "look(1, 4) = NO; look(1, -1) = NO; look(1, MIN) = NO; look(1, MAX) = NO");
    bounds.hold("8 BEYOND ahead of NO", Lands.RICH, "look(3, 4) = BEYOND; look(-1, -1) = BEYOND; look(2, 4) = NO");
    bounds.hold("8 how many LOANS it told in the open YEAR", Lands.SMALL, "edition(0, 2, 0); look(0, 3) = 0",
        "lent(0, 0, 1); look(0, 3) = 1; lent(0, 1, 99999); look(0, 3) = 100000; close(); look(0, 3) = 0",
        "put(0, 0, 0, 7); look(0, 3) = 0");
  }

  private static void year() {
    bounds.hold("9 a YEAR (0 .. the open one)", Lands.RICH, "year(0, 5) = 5000; year(1, 5) = 44",
        "year(2, 5) = 0 BEYOND; year(-1, 5) = 0 BEYOND; year(MIN, 5) = 0 BEYOND; year(MAX, 5) = 0 BEYOND; close()",
        "year(2, 5) = 0");
    bounds.hold("9 NO: what", Lands.RICH, "year(0, 0) = 3; year(0, 1) = 1000; year(0, 4) = 0; year(0, 8) = 3200",
        "year(0, 9) = 0 NO; year(0, -1) = 0 NO; year(0, MIN) = 0 NO; year(0, MAX) = 0 NO");
    bounds.hold("9 BEYOND ahead of NO", Lands.RICH, "year(2, 9) = 0 BEYOND; year(-1, -1) = 0 BEYOND",
        "year(1, 9) = 0 NO");
    bounds.hold("9 PARTED, BACK and THE REST are 0 if it is open", Lands.SMALL, "fund(7); year(0, 5) = 7",
        "year(0, 6) = 0; year(0, 7) = 0; year(0, 8) = 0; close(); year(0, 5) = 7; year(0, 6) = 7; year(0, 7) = 0",
        "year(0, 8) = 7; year(1, 6) = 0; year(1, 7) = 0; year(1, 8) = 0");
    bounds.hold("9 what was paid BACK", Lands.writers(2), "tape late 1; rule(0, 9)", Lands.lent(1, 1), "fund(10)",
        "close(); put(0, 0, 1, 0); fund(6); close(); year(0, 7) = 0; year(1, 5) = 6; year(1, 7) = 5; year(1, 6) = 1",
        "year(1, 8) = 1");
  }
}
