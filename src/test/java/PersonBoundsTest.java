/** Promises 10 to 19, each sentence that names a bound, on both its sides. */
public final class PersonBoundsTest {
  private static final Due due = new Due("PersonBoundsTest");
  private static final Bounds bounds = new Bounds(due);

  public static void main(String[] args) {
    edition();
    person();
    died();
    heir();
    heirParts();
    share();
    shareFull();
    editionOf();
    personOf();
    shareOf();
    sameRefused();
    sameByTitleAndWriter();
    sameByBirth();
    samePersons();
    joinRefused();
    joined();
    due.end();
  }

  private static void edition() {
    bounds.hold("10 KIND 0 to 5", "edition(0, 1, 0) = 0; edition(5, 1, 0) = 1; editionOf(0, 0) = 0",
        "editionOf(1, 0) = 5");
    bounds.hold("10 NO: KIND", Lands.RICH, "edition(-1, 1, 0) = NO; edition(6, 1, 0) = NO; edition(MIN, 1, 0) = NO",
        "edition(MAX, 1, 0) = NO; edition(5, 1, 0) = 3");
    bounds.hold("10 TITLE (0 .. 9999)", "edition(0, 0, 0) = 0; edition(0, 9999, 0) = 1; editionOf(0, 1) = 0",
        "editionOf(1, 1) = 9999");
    bounds.hold("10 NO: TITLE", Lands.RICH, "edition(0, -1, 0) = NO; edition(0, 10000, 0) = NO",
        "edition(0, MIN, 0) = NO; edition(0, MAX, 0) = NO; edition(0, 0, 0) = 3");
    bounds.hold("10 PRINTED in a YEAR (-99 .. the open one)", "edition(0, 1, -99) = 0; edition(0, 1, 0) = 1",
        "edition(0, 1, 1) = NO; close(); edition(0, 1, 1) = 2; edition(0, 1, 2) = NO; editionOf(0, 2) = -99",
        "editionOf(1, 2) = 0; editionOf(2, 2) = 1");
    bounds.hold("10 NO: PRINTED", Lands.RICH, "edition(0, 1, -100) = NO; edition(0, 1, 2) = NO",
        "edition(0, 1, MIN) = NO; edition(0, 1, MAX) = NO; edition(0, 1, 1) = 3");
    bounds.hold("10 EDITIONS 0 .. 29", "28 * edition(0, 1, 0); edition(1, 2, 0) = 28; edition(2, 3, -4) = 29",
        "count(2) = 30; editionOf(29, 1) = 3; edition(2, 3, -4) = FULL; edition(0, 0, 0) = FULL; count(2) = 30");
    bounds.hold("10 NO ahead of FULL", "30 * edition(0, 1, 0); edition(6, 1, 0) = NO; edition(0, 10000, 0) = NO",
        "edition(0, 1, 1) = NO; edition(0, 1, 0) = FULL");
  }

  private static void person() {
    bounds.hold("11 NAME (0 .. 9999)", "person(0, 0, 0) = 0; person(9999, 0, 0) = 1; personOf(0, 0) = 0",
        "personOf(1, 0) = 9999");
    bounds.hold("11 NO: NAME", Lands.RICH, "person(-1, 0, 0) = NO; person(10000, 0, 0) = NO; person(MIN, 0, 0) = NO",
        "person(MAX, 0, 0) = NO; person(0, 0, 0) = 3");
    bounds.hold("11 LAND (0 home, 1 .. 3)", "person(1, 0, 0) = 0; person(1, 3, 0) = 1; personOf(0, 1) = 0",
        "personOf(1, 1) = 3");
    bounds.hold("11 NO: LAND", Lands.RICH, "person(1, -1, 0) = NO; person(1, 4, 0) = NO; person(1, MIN, 0) = NO",
        "person(1, MAX, 0) = NO; person(1, 3, 0) = 3");
    bounds.hold("11 BORN in a YEAR (-99 .. the open one), or not known (-100)", "person(1, 0, -100) = 0",
        "person(1, 0, -99) = 1; person(1, 0, 0) = 2; person(1, 0, 1) = NO; person(1, 0, -101) = NO; close()",
        "person(1, 0, 1) = 3; person(1, 0, 2) = NO; personOf(0, 2) = -100; personOf(1, 2) = -99; personOf(3, 2) = 1");
    bounds.hold("11 NO: BORN", Lands.RICH, "person(1, 0, -101) = NO; person(1, 0, 2) = NO; person(1, 0, MIN) = NO",
        "person(1, 0, MAX) = NO; person(1, 0, 1) = 3");
    bounds.hold("11 PERSONS 0 .. 19", "18 * person(1, 0, 0); person(1, 0, 0) = 18; person(2, 1, -9) = 19",
        "count(3) = 20; personOf(19, 0) = 2; person(2, 1, -9) = FULL; person(0, 0, 0) = FULL; count(3) = 20");
    bounds.hold("11 NO ahead of FULL", "20 * person(1, 0, 0); person(-1, 0, 0) = NO; person(1, 4, 0) = NO",
        "person(1, 0, 1) = NO; person(1, 0, 0) = FULL");
  }

  private static void died() {
    bounds.hold("12 BEYOND: PERSON", Lands.RICH, "died(2, 1) = -100; died(3, 1) = 0 BEYOND; died(-1, 1) = 0 BEYOND",
        "died(MIN, 1) = 0 BEYOND; died(MAX, 1) = 0 BEYOND; person(1, 0, 0); died(3, 1) = -100",
        "died(4, 1) = 0 BEYOND");
    bounds.hold("12 not ahead of the one in which it was BORN, if known", "person(1, 0, -10); died(0, -11) = 0 NO",
        "personOf(0, 3) = -100; died(0, -10) = -100; personOf(0, 3) = -10; died(0, -11) = 0 NO; died(0, -9) = -10");
    bounds.hold("12 -99 at least", "person(1, 0, -100); person(1, 0, -99); died(0, -100) = 0 NO",
        "died(0, -99) = -100; died(1, -100) = 0 NO; died(1, -99) = -100; died(0, -100) = 0 NO; died(0, MIN) = 0 NO");
    bounds.hold("12 the open one at most", "person(1, 0, 0); died(0, 1) = 0 NO; died(0, 0) = -100",
        "died(0, MAX) = 0 NO; close(); died(0, 1) = 0; died(0, 2) = 0 NO; personOf(0, 3) = 1");
    bounds.hold("12 BORN in the open YEAR", "close(); person(1, 0, 1); died(0, 0) = 0 NO; died(0, 2) = 0 NO",
        "died(0, 1) = -100");
    bounds.hold("12 BEYOND ahead of NO", Lands.RICH, "died(3, 2) = 0 BEYOND; died(-1, -100) = 0 BEYOND",
        "died(0, 2) = 0 NO");
    bounds.hold("12 NO in a land of everything", Lands.RICH, "died(0, -41) = 0 NO; died(1, -100) = 0 NO",
        "died(2, 2) = 0 NO; died(0, -40) = -1; died(1, -99) = 0; died(1, 1) = -99");
  }

  private static void heir() {
    bounds.hold("13 BEYOND: PERSON, HEIR", Lands.RICH, "heir(2, 1, 5) = 0; heir(3, 1, 5) = BEYOND",
        "heir(-1, 1, 5) = BEYOND; heir(1, 2, 5) = 0; heir(1, 3, 5) = BEYOND; heir(1, -1, 5) = BEYOND",
        "heir(MIN, 1, 5) = BEYOND; heir(1, MAX, 5) = BEYOND; heir(MAX, 1, 5) = BEYOND; heir(1, MIN, 5) = BEYOND");
    bounds.hold("13 NO: itself", Lands.RICH, "heir(0, 0, 5) = NO; heir(2, 2, 5) = NO; heir(2, 2, 0) = NO",
        "heir(2, 0, 5) = 0");
    bounds.hold("13 NO: PARTS", Lands.RICH, "heir(1, 0, -1) = NO; heir(1, 0, 101) = NO; heir(1, 0, MIN) = NO",
        "heir(1, 0, MAX) = NO; heir(0, 1, -1) = NO; heir(0, 1, 101) = NO; heir(0, 2, 51) = NO; heir(0, 2, 50) = 0",
        "heir(0, 1, 51) = NO");
    bounds.hold("13 of several the first", Lands.RICH, "heir(3, 3, -1) = BEYOND; heir(3, 0, 101) = BEYOND",
        "heir(0, 3, -1) = BEYOND; heir(0, 0, 101) = NO");
  }

  private static void heirParts() {
    bounds.hold("13 PARTS (1 .. 100)", "2 * person(1, 0, 0); heir(0, 1, 1) = 0; personOf(0, 5) = 1",
        "heir(0, 1, 100) = 1; personOf(0, 5) = 100; heir(0, 1, 101) = NO; heir(0, 1, -1) = NO");
    bounds.hold("13 0: no longer", "2 * person(1, 0, 0); heir(0, 1, 0) = 0; personOf(0, 5) = 0; heir(0, 1, 1) = 0",
        "heir(0, 1, 0) = 1; personOf(0, 5) = 0; heir(0, 1, 100) = 0");
    bounds.hold("13 100 in all at most", "4 * person(1, 0, 0); heir(0, 1, 60) = 0; heir(0, 2, 41) = NO",
        "heir(0, 2, 39) = 0; heir(0, 3, 2) = NO; heir(0, 3, 1) = 0; personOf(0, 5) = 100; heir(0, 3, 2) = NO",
        "heir(0, 1, 61) = NO; heir(0, 1, 60) = 60; heir(0, 1, 59) = 60; heir(0, 3, 2) = 1; personOf(0, 5) = 100");
    bounds.hold("13 of each PERSON 100", "3 * person(1, 0, 0); heir(0, 1, 100) = 0; heir(0, 2, 1) = NO",
        "heir(1, 0, 100) = 0; heir(2, 0, 100) = 0; personOf(2, 5) = 100");
    bounds.hold("13 many HEIRS", "20 * person(1, 0, 0)", Bounds.each(19, "heir(19, #, 5) = 0"),
        "personOf(19, 5) = 95; heir(19, 0, 11) = NO; heir(19, 0, 10) = 5; heir(19, 18, 6) = NO; heir(19, 18, 0) = 5",
        "heir(19, 0, 15) = 10");
  }

  private static void share() {
    bounds.hold("14 BEYOND: EDITION", Lands.RICH, "share(1, 0, 1) = 4; share(3, 0, 1) = BEYOND",
        "share(-1, 0, 1) = BEYOND; share(MIN, 0, 1) = BEYOND; share(MAX, 0, 1) = BEYOND; edition(0, 1, 0)",
        "share(3, 0, 1) = 5");
    bounds.hold("14 BEYOND: PERSON", Lands.RICH, "share(1, 24, 1) = 4; share(1, 30, 1) = BEYOND",
        "share(1, 34, 1) = BEYOND; share(1, -1, 1) = BEYOND; share(1, -10, 1) = BEYOND; share(1, MIN, 1) = BEYOND",
        "share(1, MAX, 1) = BEYOND");
    bounds.hold("14 ROLE (0 writer to 4 editor)", Lands.SMALL, "edition(0, 1, 0); person(2, 0, 0)",
        "share(1, 0, 1) = 1; share(1, 4, 1) = 2; share(1, 14, 1) = 3; shareOf(1, 2) = 0; shareOf(2, 2) = 4",
        "shareOf(3, 1) = 1; shareOf(3, 2) = 4");
    bounds.hold("14 NO: ROLE", Lands.RICH, "share(1, 5, 1) = NO; share(1, 9, 1) = NO; share(1, 25, 1) = NO",
        "share(1, 29, 1) = NO");
    bounds.hold("14 PARTS (1 .. 100)", "2 * edition(0, 1, 0); person(1, 0, 0); share(0, 0, 1) = 0",
        "share(1, 0, 100) = 1; shareOf(0, 3) = 1; shareOf(1, 3) = 100");
    bounds.hold("14 NO: PARTS", Lands.RICH, "edition(0, 1, 0); share(3, 0, 0) = NO; share(3, 0, 101) = NO",
        "share(3, 0, -1) = NO; share(3, 0, MIN) = NO; share(3, 0, MAX) = NO; share(3, 0, 100) = 4");
    bounds.hold("14 of an EDITION 100 in all at most: FULL", Lands.RICH, "share(1, 0, 51) = FULL",
        "share(1, 0, 49) = 4; share(1, 0, 2) = FULL; share(1, 0, 1) = 5; editionOf(1, 4) = 100",
        "share(1, 0, 1) = FULL");
    bounds.hold("14 CLAIMED in the YEAR that was open as it was told", "2 * edition(0, 1, 0); person(1, 0, 0)",
        "share(0, 0, 1) = 0; close(); share(0, 0, 1) = 1; shareOf(0, 4) = 0; shareOf(1, 4) = 1");
    bounds.hold("14 of several the first", Lands.RICH, "share(3, 39, 0) = BEYOND; share(0, 35, 0) = BEYOND",
        "share(3, 5, 101) = BEYOND; share(0, 5, 1) = NO; share(0, 0, 101) = NO; share(0, 0, 0) = NO",
        "share(0, 0, 1) = FULL");
  }

  private static void shareFull() {
    bounds.hold("14 SHARES 0 .. 59", "2 * edition(0, 1, 0); person(1, 0, 0); 58 * share(0, 1, 1)",
        "share(0, 0, 1) = 58; share(1, 2, 7) = 59; count(4) = 60; shareOf(59, 3) = 7; share(1, 0, 1) = FULL",
        "share(0, 0, 1) = FULL; share(1, 5, 1) = NO; share(1, 0, 0) = NO; share(2, 0, 1) = BEYOND",
        "share(0, 10, 1) = BEYOND; count(4) = 60");
  }

  private static void editionOf() {
    bounds.hold("15 BEYOND: EDITION", Lands.RICH, "editionOf(2, 0) = 3; editionOf(3, 0) = 0 BEYOND",
        "editionOf(-1, 0) = 0 BEYOND; editionOf(MIN, 0) = 0 BEYOND; editionOf(MAX, 0) = 0 BEYOND; edition(4, 1, 0)",
        "editionOf(3, 0) = 4; editionOf(4, 0) = 0 BEYOND");
    bounds.hold("15 NO: what", Lands.RICH, "editionOf(1, 0) = 1; editionOf(1, 1) = 5; editionOf(1, 2) = 0",
        "editionOf(1, 3) = 0; editionOf(1, 4) = 50; editionOf(1, 5) = 0 NO; editionOf(1, -1) = 0 NO",
        "editionOf(1, MIN) = 0 NO; editionOf(1, MAX) = 0 NO");
    bounds.hold("15 BEYOND ahead of NO", Lands.RICH, "editionOf(3, 5) = 0 BEYOND; editionOf(-1, -1) = 0 BEYOND",
        "editionOf(2, 5) = 0 NO");
    bounds.hold("15 PARTS in all", "edition(0, 1, 0); person(1, 0, 0); editionOf(0, 4) = 0; share(0, 0, 1)",
        "editionOf(0, 4) = 1; share(0, 0, 99); editionOf(0, 4) = 100");
  }

  private static void personOf() {
    bounds.hold("16 BEYOND: PERSON", Lands.RICH, "personOf(2, 0) = 7; personOf(3, 0) = 0 BEYOND",
        "personOf(-1, 0) = 0 BEYOND; personOf(MIN, 0) = 0 BEYOND; personOf(MAX, 0) = 0 BEYOND; person(4, 1, 0)",
        "personOf(3, 0) = 4; personOf(4, 0) = 0 BEYOND");
    bounds.hold("16 NO: what", Lands.RICH, "personOf(2, 0) = 7; personOf(1, 1) = 1; personOf(0, 2) = -40",
        "personOf(0, 3) = -1; personOf(2, 4) = 0; personOf(0, 5) = 50; personOf(0, 6) = 0 NO",
        "personOf(0, -1) = 0 NO; personOf(0, MIN) = 0 NO; personOf(0, MAX) = 0 NO");
    bounds.hold("16 BEYOND ahead of NO", Lands.RICH, "personOf(3, 6) = 0 BEYOND; personOf(-1, -1) = 0 BEYOND",
        "personOf(2, 6) = 0 NO");
    bounds.hold("16 -100: it lives", "person(1, 0, -99); personOf(0, 3) = -100; died(0, -99) = -100",
        "personOf(0, 3) = -99");
  }

  private static void shareOf() {
    bounds.hold("17 BEYOND: SHARE", Lands.RICH, "shareOf(3, 0) = 2; shareOf(4, 0) = BEYOND; shareOf(-1, 0) = BEYOND",
        "shareOf(MIN, 0) = BEYOND; shareOf(MAX, 0) = BEYOND; share(1, 10, 1); shareOf(4, 0) = 1",
        "shareOf(5, 0) = BEYOND");
    bounds.hold("17 NO: what", Lands.RICH, "shareOf(3, 0) = 2; shareOf(3, 1) = 2; shareOf(3, 2) = 3",
        "shareOf(3, 3) = 100; shareOf(3, 4) = 0; shareOf(3, 5) = NO; shareOf(3, -1) = NO; shareOf(3, MIN) = NO",
        "shareOf(3, MAX) = NO");
    bounds.hold("17 BEYOND ahead of NO", Lands.RICH, "shareOf(4, 5) = BEYOND; shareOf(-1, -1) = BEYOND",
        "shareOf(3, 5) = NO");
  }

  private static void sameRefused() {
    bounds.hold("18 NO: what", Lands.RICH, "same(0, 0, 1) = 1; same(1, 0, 2) = 1; same(2, 0, 1) = NO",
        "same(-1, 0, 1) = NO; same(MIN, 0, 1) = NO; same(MAX, 0, 1) = NO");
    bounds.hold("18 BEYOND: EDITION", Lands.RICH, "same(0, 2, 0) = 0; same(0, 3, 0) = BEYOND",
        "same(0, 0, 3) = BEYOND; same(0, -1, 0) = BEYOND; same(0, 0, -1) = BEYOND; same(0, MAX, 0) = BEYOND",
        "same(0, 0, MIN) = BEYOND");
    bounds.hold("18 BEYOND: PERSON", Lands.RICH, "same(1, 2, 0) = 1; same(1, 3, 0) = BEYOND; same(1, 0, 3) = BEYOND",
        "same(1, -1, 0) = BEYOND; same(1, 0, -1) = BEYOND; same(1, MAX, 0) = BEYOND; same(1, 0, MIN) = BEYOND");
    bounds.hold("18 NO: one and itself", Lands.RICH, "same(0, 0, 0) = NO; same(0, 2, 2) = NO; same(1, 0, 0) = NO",
        "same(1, 2, 2) = NO; same(1, 2, 0) = 1");
    bounds.hold("18 of several the first", Lands.RICH, "same(2, 3, 3) = NO; same(-1, 9, 0) = NO",
        "same(0, 3, 3) = BEYOND; same(1, -1, -1) = BEYOND");
  }

  private static void sameByTitleAndWriter() {
    bounds.hold("18 EDITIONS: unlike TITLES", "edition(0, 1, 0); edition(0, 2, 0); edition(1, 1, 0)",
        "same(0, 0, 1) = 0; same(0, 0, 2) = 1; person(1, 0, -5); share(0, 0, 9); share(1, 0, 9); share(2, 0, 9)",
        "same(0, 0, 1) = 0; same(0, 0, 2) = 2");
    bounds.hold("18 EDITIONS: each has a writer's SHARE, and none is common", "2 * edition(0, 1, 0)",
        "2 * person(1, 0, -100); same(0, 0, 1) = 1; share(0, 0, 9); same(0, 0, 1) = 1; same(0, 1, 0) = 1",
        "share(1, 1, 9); same(0, 0, 1) = 1; share(1, 10, 9); same(0, 0, 1) = 0; same(0, 1, 0) = 0; share(1, 0, 9)",
        "same(0, 0, 1) = 2; same(0, 1, 0) = 2");
    bounds.hold("18 EDITIONS: the second has a writer's SHARE, the first has none", "3 * edition(0, 1, 0)",
        "person(1, 0, -100); share(1, 0, 9); same(0, 0, 1) = 1; same(0, 1, 0) = 1; share(2, 0, 9)",
        "same(0, 0, 2) = 1; same(0, 1, 2) = 2; same(0, 0, 1) = 1");
    bounds.hold("18 EDITIONS: with all SHARES", "3 * edition(0, 1, 0); 2 * person(1, 0, -100); 58 * share(0, 1, 1)",
        "share(1, 0, 1); share(2, 10, 1); count(4) = 60; same(0, 0, 1) = 1; same(0, 0, 2) = 1; same(0, 1, 2) = 0",
        "join(1, 0, 1); same(0, 1, 2) = 2");
    bounds.hold("18 EDITIONS: only writers count", "2 * edition(0, 1, 0); 2 * person(1, 0, -100); share(0, 1, 9)",
        "share(1, 1, 9); same(0, 0, 1) = 1; share(0, 4, 9); share(1, 14, 9); same(0, 0, 1) = 1; share(0, 0, 9)",
        "same(0, 0, 1) = 1");
    bounds.hold("18 EDITIONS: writers that were JOINED are a common one", "2 * edition(0, 1, 0)",
        "2 * person(1, 0, -100); share(0, 0, 9); share(1, 10, 9); same(0, 0, 1) = 0; join(1, 0, 1)",
        "same(0, 0, 1) = 2");
  }

  private static void sameByBirth() {
    bounds.hold("18 EDITIONS: PRINTED ahead of the YEAR in which a writer was BORN", "person(1, 0, -20)",
        "edition(0, 1, 0); edition(0, 1, -20); edition(0, 1, -21); share(0, 0, 9); same(0, 0, 1) = 1",
        "same(0, 1, 0) = 1; same(0, 0, 2) = 0; same(0, 2, 0) = 0");
    bounds.hold("18 EDITIONS: a common writer, but another one BORN later", "person(1, 0, -50); person(2, 0, -20)",
        "edition(0, 1, 0); edition(0, 1, -20); edition(0, 1, -21); share(0, 0, 9); share(1, 0, 9); share(2, 0, 9)",
        "same(0, 0, 1) = 2; same(0, 0, 2) = 2; share(0, 10, 9); same(0, 0, 1) = 2; same(0, 0, 2) = 0",
        "same(0, 2, 0) = 0");
    bounds.hold("18 EDITIONS: if that is known", "person(1, 0, -100); person(1, 0, -99); edition(0, 1, 0)",
        "edition(0, 1, -99); share(0, 0, 9); same(0, 0, 1) = 1; share(0, 10, 9); same(0, 0, 1) = 1",
        "same(0, 1, 0) = 1");
    bounds.hold("18 EDITIONS: one who draws may be BORN later", "person(1, 0, -20); edition(0, 1, 0)",
        "edition(0, 1, -21); share(0, 1, 9); share(0, 4, 9); same(0, 0, 1) = 1; share(0, 0, 9); same(0, 0, 1) = 0");
    bounds.hold("18 EDITIONS: its own writer BORN behind its own PRINTED", "person(1, 0, 0); edition(0, 1, -9)",
        "edition(0, 1, 0); share(0, 0, 9); same(0, 0, 1) = 1");
  }

  private static void samePersons() {
    bounds.hold("18 PERSONS: unlike NAMES", "person(1, 0, -20); person(2, 0, -20); person(1, 3, -20)",
        "same(1, 0, 1) = 0; same(1, 1, 0) = 0; same(1, 0, 2) = 2");
    bounds.hold("18 PERSONS: BORN, both known, unlike", "person(1, 0, -20); person(1, 0, -21); person(1, 0, -20)",
        "person(1, 0, -100); person(1, 0, -100); same(1, 0, 1) = 0; same(1, 1, 0) = 0; same(1, 0, 2) = 2",
        "same(1, 0, 3) = 1; same(1, 3, 0) = 1; same(1, 3, 4) = 1");
    bounds.hold("18 PERSONS: BORN known is sure from -99 on", "2 * person(1, 0, -99); same(1, 0, 1) = 2",
        "person(1, 0, -100); same(1, 0, 2) = 1");
    bounds.hold("18 PERSONS: one DIED ahead of the YEAR in which the other one was BORN", "person(1, 0, -20)",
        "person(1, 0, -100); same(1, 0, 1) = 1; died(1, -20); same(1, 0, 1) = 1; same(1, 1, 0) = 1; died(1, -21)",
        "same(1, 0, 1) = 0; same(1, 1, 0) = 0");
    bounds.hold("18 PERSONS: BORN not known can't be behind", "2 * person(1, 0, -100); died(0, -99)",
        "same(1, 0, 1) = 1; same(1, 1, 0) = 1; died(1, 0); same(1, 0, 1) = 1");
    bounds.hold("18 PERSONS: who lives didn't die ahead", "person(1, 0, -99); person(1, 0, -100); same(1, 0, 1) = 1",
        "same(1, 1, 0) = 1");
  }

  private static void joinRefused() {
    bounds.hold("19 NO: what", Lands.RICH, "join(2, 0, 1) = NO; join(-1, 0, 1) = NO; join(MIN, 0, 1) = NO",
        "join(MAX, 0, 1) = NO; join(0, 0, 1) = 0; join(1, 0, 2) = 0");
    bounds.hold("19 BEYOND: EDITION", Lands.RICH, "join(0, 3, 0) = BEYOND; join(0, 0, 3) = BEYOND",
        "join(0, -1, 0) = BEYOND; join(0, 0, -1) = BEYOND; join(0, MAX, 0) = BEYOND; join(0, 0, MIN) = BEYOND",
        "edition(0, 6, 0); join(0, 3, 2) = 2");
    bounds.hold("19 BEYOND: PERSON", Lands.RICH, "join(1, 3, 0) = BEYOND; join(1, 0, 3) = BEYOND",
        "join(1, -1, 0) = BEYOND; join(1, 0, -1) = BEYOND; join(1, MAX, 0) = BEYOND; join(1, 0, MIN) = BEYOND",
        "person(8, 0, -100); join(1, 3, 1) = 1");
    bounds.hold("19 NO: one and itself", Lands.RICH, "join(0, 0, 0) = NO; join(0, 2, 2) = NO; join(1, 1, 1) = NO",
        "join(1, 2, 2) = NO");
    bounds.hold("19 NO: SAME is 0", Lands.RICH, "join(0, 0, 2) = NO; join(0, 2, 1) = NO; join(1, 0, 1) = NO",
        "join(1, 1, 2) = NO; count(8) = 2; count(9) = 2");
    bounds.hold("19 of several the first", Lands.RICH, "join(2, 3, 3) = NO; join(0, 3, 3) = BEYOND",
        "join(1, -1, -1) = BEYOND; join(0, 9, 0) = BEYOND");
  }

  private static void joined() {
    bounds.hold("19 SAME is 1, SAME is 2", "person(1, 0, -100); person(1, 0, -5); person(1, 0, -5)",
        "person(2, 0, -5); same(1, 2, 1) = 2; join(1, 2, 1) = 1; same(1, 0, 1) = 1; join(1, 0, 1) = 0; count(9) = 2",
        "personOf(2, 4) = 0; join(1, 3, 0) = NO");
    bounds.hold("19 all of a BOOK have one number: the least", "6 * edition(0, 1, 0); count(8) = 6",
        "join(0, 5, 4) = 4; count(8) = 5; join(0, 3, 2) = 2; count(8) = 4; join(0, 4, 3) = 2; count(8) = 3",
        "editionOf(5, 3) = 2; editionOf(4, 3) = 2; editionOf(0, 3) = 0; join(0, 2, 5) = 2; count(8) = 3",
        "join(0, 5, 0) = 0; editionOf(2, 3) = 0; editionOf(1, 3) = 1; count(8) = 2");
    bounds.hold("19 PERSONS likewise", "6 * person(1, 0, -100); count(9) = 6; join(1, 5, 4) = 4; count(9) = 5",
        "join(1, 3, 2) = 2; count(9) = 4; join(1, 4, 3) = 2; count(9) = 3; personOf(5, 4) = 2; personOf(4, 4) = 2",
        "personOf(0, 4) = 0; join(1, 2, 5) = 2; count(9) = 3; join(1, 5, 0) = 0; personOf(2, 4) = 0",
        "personOf(1, 4) = 1; count(9) = 2");
    bounds.hold("19 the last of each", "30 * edition(0, 1, 0); 20 * person(1, 0, -100); join(0, 29, 28) = 28",
        "join(1, 19, 18) = 18; count(8) = 29; count(9) = 19; join(0, 29, 30) = BEYOND; join(1, 19, 20) = BEYOND");
  }
}
