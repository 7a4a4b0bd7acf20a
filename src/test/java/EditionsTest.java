/** Promises 10 to 19: editions, persons, heirs, shares, and which of them are the same. */
public final class EditionsTest {
  private static final int BEYOND = LoanPence.BEYOND;
  private static final int NO = LoanPence.NO;
  private static final int FULL = LoanPence.FULL;
  private static final Due due = new Due("EditionsTest");

  public static void main(String[] args) {
    edition();
    person();
    died();
    heir();
    share();
    shareFull();
    editionOf();
    personOf();
    shareOf();
    sameEditions();
    sameOfJoinedWriters();
    samePersons();
    sameRefused();
    joinEditions();
    joinPersons();
    due.end();
  }

  private static void edition() {
    LoanPence x = new LoanPence();
    int[][] wrong = {{-1, 0, 0}, {6, 0, 0}, {0, -1, 0}, {0, 10000, 0}, {0, 0, -100}, {0, 0, 1}};
    for (int i = 0; i < wrong.length; i++) {
      int[] w = wrong[i];
      due.refused(x, "10 edition, wrong " + i, i, x.edition(w[0], w[1], w[2]), NO);
    }
    due.is("10 edition(5, 9999, -99)", x.edition(5, 9999, -99), 0);
    x.close();
    due.is("10 edition(0, 0, 1)", x.edition(0, 0, 1), 1);
    due.refused(x, "10 edition(0, 0, 2)", wrong.length, x.edition(0, 0, 2), NO);
    for (int i = 2; i < 30; i++) {
      due.is("10 edition " + i, x.edition(1, 1, 1), i);
    }
    due.refused(x, "10 edition(6, 0, 0) with 30", wrong.length + 1, x.edition(6, 0, 0), NO);
    due.refused(x, "10 edition(0, 0, 0) with 30", 0, x.edition(0, 0, 0), FULL);
    due.is("10 count(2)", x.count(2), 30);
  }

  private static void person() {
    LoanPence x = new LoanPence();
    int[][] wrong = {{-1, 0, 0}, {10000, 0, 0}, {0, -1, 0}, {0, 4, 0}, {0, 0, -101}, {0, 0, 1}};
    for (int i = 0; i < wrong.length; i++) {
      int[] w = wrong[i];
      due.refused(x, "11 person, wrong " + i, i, x.person(w[0], w[1], w[2]), NO);
    }
    due.is("11 person(9999, 3, -100)", x.person(9999, 3, -100), 0);
    due.is("11 person(0, 0, -99)", x.person(0, 0, -99), 1);
    x.close();
    due.is("11 person(0, 0, 1)", x.person(0, 0, 1), 2);
    for (int i = 3; i < 20; i++) {
      due.is("11 person " + i, x.person(i, 0, 0), i);
    }
    due.refused(x, "11 person(0, 4, 0) with 20", wrong.length, x.person(0, 4, 0), NO);
    due.refused(x, "11 person(0, 0, 0) with 20", 0, x.person(0, 0, 0), FULL);
  }

  private static void died() {
    LoanPence x = new LoanPence();
    due.refusedAsZero(x, "12 died(0, 0)", 0, x.died(0, 0), BEYOND);
    x.person(1, 0, -10);
    x.person(2, 0, -100);
    due.refusedAsZero(x, "12 died(-1, 0)", 1, x.died(-1, 0), BEYOND);
    due.refusedAsZero(x, "12 died(0, -11)", 0, x.died(0, -11), NO);
    due.refusedAsZero(x, "12 died(0, 1)", 1, x.died(0, 1), NO);
    due.refusedAsZero(x, "12 died(1, -100)", 2, x.died(1, -100), NO);
    due.is("12 it lives", x.personOf(0, 3), -100);
    due.is("12 died(0, -10)", x.died(0, -10), -100);
    due.is("12 died(0, 0)", x.died(0, 0), -10);
    due.is("12 personOf(0, 3)", x.personOf(0, 3), 0);
    due.is("12 died(1, -99)", x.died(1, -99), -100);
    due.is("12 died(1, 0)", x.died(1, 0), -99);
    x.close();
    due.is("12 died(1, 1)", x.died(1, 1), 0);
  }

  private static void heir() {
    LoanPence x = new LoanPence();
    x.person(1, 0, 0);
    x.person(2, 0, 0);
    x.person(3, 0, 0);
    due.refused(x, "13 heir(0, 3, 1)", 0, x.heir(0, 3, 1), BEYOND);
    due.refused(x, "13 heir(3, 3, -1)", 1, x.heir(3, 3, -1), BEYOND);
    due.refused(x, "13 heir(-1, 0, 1)", 2, x.heir(-1, 0, 1), BEYOND);
    due.refused(x, "13 heir(1, 1, 1)", 0, x.heir(1, 1, 1), NO);
    due.refused(x, "13 heir(0, 1, -1)", 1, x.heir(0, 1, -1), NO);
    due.refused(x, "13 heir(0, 1, 101)", 2, x.heir(0, 1, 101), NO);
    due.is("13 heir(0, 1, 0)", x.heir(0, 1, 0), 0);
    due.is("13 heir(0, 1, 100)", x.heir(0, 1, 100), 0);
    due.refused(x, "13 heir(0, 2, 1)", 3, x.heir(0, 2, 1), NO);
    due.is("13 heir(0, 1, 60)", x.heir(0, 1, 60), 100);
    due.is("13 heir(0, 2, 40)", x.heir(0, 2, 40), 0);
    due.refused(x, "13 heir(0, 1, 61)", 4, x.heir(0, 1, 61), NO);
    due.is("13 personOf(0, 5)", x.personOf(0, 5), 100);
    due.is("13 heir(0, 1, 0)", x.heir(0, 1, 0), 60);
    due.is("13 personOf(0, 5)", x.personOf(0, 5), 40);
    due.is("13 the other way is another one", x.heir(2, 0, 100), 0);
    due.is("13 personOf(2, 5)", x.personOf(2, 5), 100);
  }

  private static void share() {
    LoanPence x = new LoanPence();
    x.edition(0, 1, 0);
    x.edition(0, 1, 0);
    x.person(1, 0, 0);
    x.person(2, 0, 0);
    due.refused(x, "14 share(2, 0, 1)", 0, x.share(2, 0, 1), BEYOND);
    due.refused(x, "14 share(-1, 0, 1)", 1, x.share(-1, 0, 1), BEYOND);
    due.refused(x, "14 share(0, 29, 0)", 2, x.share(0, 29, 0), BEYOND);
    due.refused(x, "14 share(0, -1, 0)", 3, x.share(0, -1, 0), BEYOND);
    due.refused(x, "14 share(0, 5, 1)", 0, x.share(0, 5, 1), NO);
    due.refused(x, "14 share(0, 19, 1)", 1, x.share(0, 19, 1), NO);
    due.refused(x, "14 share(0, 0, 0)", 2, x.share(0, 0, 0), NO);
    due.refused(x, "14 share(0, 0, 101)", 3, x.share(0, 0, 101), NO);
    due.is("14 share(0, 14, 99)", x.share(0, 14, 99), 0);
    due.refused(x, "14 share(0, 10, 2)", 0, x.share(0, 10, 2), FULL);
    due.refused(x, "14 share(0, 15, 2)", 4, x.share(0, 15, 2), NO);
    due.is("14 share(0, 10, 1)", x.share(0, 10, 1), 1);
    due.is("14 share(1, 0, 100)", x.share(1, 0, 100), 2);
    due.is("14 count(4)", x.count(4), 3);
  }

  private static void shareFull() {
    LoanPence x = new LoanPence();
    x.edition(0, 1, 0);
    x.edition(0, 1, 0);
    x.person(1, 0, 0);
    for (int i = 0; i < 60; i++) {
      due.is("14 share " + i, x.share(0, i % 5, 1), i);
    }
    due.refused(x, "14 share(1, 0, 1) with 60", 0, x.share(1, 0, 1), FULL);
    due.refused(x, "14 share(1, 0, 0) with 60", 0, x.share(1, 0, 0), NO);
    due.refused(x, "14 share(2, 0, 0) with 60", 0, x.share(2, 0, 0), BEYOND);
  }

  private static void editionOf() {
    LoanPence x = new LoanPence();
    x.edition(5, 42, -7);
    x.edition(1, 42, 0);
    x.person(1, 0, -100);
    x.share(1, 0, 30);
    x.share(1, 1, 21);
    x.join(0, 1, 0);
    int[] due1 = {1, 42, 0, 0, 51};
    int[] due0 = {5, 42, -7, 0, 0};
    for (int what = 0; what <= 4; what++) {
      due.is("15 editionOf(0, " + what + ")", x.editionOf(0, what), due0[what]);
      due.is("15 editionOf(1, " + what + ")", x.editionOf(1, what), due1[what]);
    }
    due.refusedAsZero(x, "15 editionOf(2, 9)", 0, x.editionOf(2, 9), BEYOND);
    due.refusedAsZero(x, "15 editionOf(-1, 0)", 1, x.editionOf(-1, 0), BEYOND);
    due.refusedAsZero(x, "15 editionOf(0, 5)", 0, x.editionOf(0, 5), NO);
    due.refusedAsZero(x, "15 editionOf(0, -1)", 1, x.editionOf(0, -1), NO);
  }

  private static void personOf() {
    LoanPence x = new LoanPence();
    x.person(77, 3, -100);
    x.person(77, 1, -5);
    x.heir(1, 0, 12);
    x.died(1, -4);
    x.join(1, 1, 0);
    int[] due0 = {77, 3, -100, -100, 0, 0};
    int[] due1 = {77, 1, -5, -4, 0, 12};
    for (int what = 0; what <= 5; what++) {
      due.is("16 personOf(0, " + what + ")", x.personOf(0, what), due0[what]);
      due.is("16 personOf(1, " + what + ")", x.personOf(1, what), due1[what]);
    }
    due.refusedAsZero(x, "16 personOf(2, 9)", 0, x.personOf(2, 9), BEYOND);
    due.refusedAsZero(x, "16 personOf(-1, 0)", 1, x.personOf(-1, 0), BEYOND);
    due.refusedAsZero(x, "16 personOf(0, 6)", 0, x.personOf(0, 6), NO);
    due.refusedAsZero(x, "16 personOf(0, -1)", 1, x.personOf(0, -1), NO);
  }

  private static void shareOf() {
    LoanPence x = new LoanPence();
    x.edition(0, 1, 0);
    x.edition(0, 1, 0);
    x.person(1, 0, 0);
    x.person(2, 0, 0);
    x.close();
    x.close();
    x.share(1, 13, 45);
    int[] want = {1, 1, 3, 45, 2};
    x.close();
    for (int what = 0; what <= 4; what++) {
      due.is("17 shareOf(0, " + what + ")", x.shareOf(0, what), want[what]);
    }
    due.refused(x, "17 shareOf(1, 9)", 0, x.shareOf(1, 9), BEYOND);
    due.refused(x, "17 shareOf(-1, 0)", 1, x.shareOf(-1, 0), BEYOND);
    due.refused(x, "17 shareOf(0, 5)", 0, x.shareOf(0, 5), NO);
    due.refused(x, "17 shareOf(0, -1)", 1, x.shareOf(0, -1), NO);
  }

  private static void sameEditions() {
    LoanPence x = new LoanPence();
    x.person(1, 0, -20);
    x.person(2, 0, -100);
    x.person(3, 0, -50);
    x.edition(0, 1, -30); // 0: no writer
    x.edition(0, 1, -20); // 1: writer 0, BORN -20
    x.edition(0, 1, -21); // 2: no writer, PRINTED ahead of -20
    x.edition(0, 1, -99); // 3: writer 1, BORN not known
    x.edition(0, 1, -10); // 4: writers 1 and 2
    x.edition(0, 1, -10); // 5: writer 2, drawer 0
    x.edition(0, 2, -10); // 6: another TITLE, writer 2
    x.edition(0, 1, -20); // 7: no writer, PRINTED as 0 was BORN
    x.share(1, 0, 50);
    x.share(3, 10, 50);
    x.share(4, 10, 50);
    x.share(4, 20, 50);
    x.share(5, 20, 50);
    x.share(5, 1, 50);
    x.share(6, 20, 50);
    int[][] want = {
      {0, 1, 0}, {0, 2, 1}, {1, 2, 0}, {2, 1, 0}, {1, 7, 1}, {7, 1, 1}, // a writer BORN too late, either way
      {1, 3, 0}, // unlike writers
      {0, 3, 1}, // a writer of whom BORN isn't known
      {3, 4, 0}, // a common writer, but 3 was PRINTED ahead of the other writer's birth
      {4, 5, 2}, {5, 4, 2}, // a common writer
      {1, 5, 0}, // 0 draws 5, which makes no writer in common
      {5, 6, 0}, // unlike TITLES with a common writer
      {0, 6, 0}, {2, 7, 1}};
    for (int[] w : want) {
      due.is("18 same(0, " + w[0] + ", " + w[1] + ")", x.same(0, w[0], w[1]), w[2]);
    }
  }

  private static void sameOfJoinedWriters() {
    LoanPence x = new LoanPence();
    x.person(5, 0, -100); // 0
    x.person(5, 0, -20); // 1
    x.person(5, 0, -100); // 2
    x.person(5, 0, -100); // 3: joined to nobody
    x.edition(0, 1, -10); // 0: writer 1
    x.edition(0, 1, -10); // 1: writer 2
    x.edition(0, 1, -10); // 2: writer 3, drawer 0
    x.edition(0, 1, -30); // 3: writer 2, PRINTED ahead of 1's birth
    x.edition(0, 1, -30); // 4: writer 0, PRINTED ahead of 1's birth
    x.edition(0, 2, -10); // 5: writer 2, another TITLE
    x.share(0, 10, 50);
    x.share(1, 20, 50);
    x.share(2, 30, 50);
    x.share(2, 1, 50);
    x.share(3, 20, 50);
    x.share(4, 0, 50);
    x.share(5, 20, 50);
    due.is("18 same(0, 0, 1) of two writers", x.same(0, 0, 1), 0);
    due.refused(x, "19 join(0, 0, 1) of two writers", 0, x.join(0, 0, 1), NO);
    x.image();
    x.join(1, 1, 2);
    due.is("18 same(0, 0, 1), 2 JOINED to 1", x.same(0, 0, 1), 2);
    due.is("18 same(0, 3, 4), 0 not JOINED to 2", x.same(0, 3, 4), 0);
    x.join(1, 0, 1);
    int[][] want = {
      {0, 1, 2}, {1, 0, 2}, // both their ONE is 0, which writes neither
      {0, 2, 0}, {1, 2, 0}, // 3 is another ONE; 0 only draws 2
      {0, 3, 0}, {3, 0, 0}, // one writer, but 3 was PRINTED ahead of 1's birth
      {3, 4, 2}, {1, 3, 2}, {1, 4, 2}, // 0's and 2's own BORN isn't known
      {1, 5, 0}}; // unlike TITLES
    for (int[] w : want) {
      due.is("18 same(0, " + w[0] + ", " + w[1] + ") of JOINED writers", x.same(0, w[0], w[1]), w[2]);
    }
    due.is("19 join(0, 0, 1) of JOINED writers", x.join(0, 0, 1), 0);
    x.back();
    due.is("18 same(0, 0, 1), JOINED no longer", x.same(0, 0, 1), 0);
  }

  private static void samePersons() {
    LoanPence x = new LoanPence();
    x.person(5, 0, -30); // 0
    x.person(5, 1, -30); // 1: sure
    x.person(5, 0, -29); // 2: BORN unlike
    x.person(5, 0, -100); // 3: BORN not known, lives
    x.person(6, 0, -30); // 4: another NAME
    x.person(5, 0, -100); // 5: DIED in -31
    x.person(5, 0, -100); // 6: DIED in -30
    x.died(5, -31);
    x.died(6, -30);
    int[][] want = {{0, 1, 2}, {1, 0, 2}, {0, 2, 0}, {0, 3, 1}, {3, 0, 1}, {0, 4, 0}, {3, 4, 0},
      {0, 5, 0}, {5, 0, 0}, {0, 6, 1}, {6, 0, 1}, {3, 5, 1}, {5, 6, 1}, {2, 6, 0}, {3, 6, 1}};
    for (int[] w : want) {
      due.is("18 same(1, " + w[0] + ", " + w[1] + ")", x.same(1, w[0], w[1]), w[2]);
    }
  }

  private static void sameRefused() {
    LoanPence x = new LoanPence();
    x.edition(0, 1, 0);
    x.edition(0, 1, 0);
    x.person(1, 0, 0);
    x.person(1, 0, 0);
    x.person(2, 0, 0);
    x.edition(0, 2, 0);
    int beyond = 0;
    int no = 0;
    for (int what = 0; what <= 1; what++) {
      due.refused(x, "18 same(w, 3, 0)", beyond++, x.same(what, 3, 0), BEYOND);
      due.refused(x, "18 same(w, 0, 3)", beyond++, x.same(what, 0, 3), BEYOND);
      due.refused(x, "18 same(w, -1, 0)", beyond++, x.same(what, -1, 0), BEYOND);
      due.refused(x, "18 same(w, 3, 3)", beyond++, x.same(what, 3, 3), BEYOND);
      due.refused(x, "18 same(w, 1, 1)", no++, x.same(what, 1, 1), NO);
      due.refused(x, "19 join(w, 3, 0)", beyond++, x.join(what, 3, 0), BEYOND);
      due.refused(x, "19 join(w, 3, 3)", beyond++, x.join(what, 3, 3), BEYOND);
      due.refused(x, "19 join(w, 0, -1)", beyond++, x.join(what, 0, -1), BEYOND);
      due.refused(x, "19 join(w, 1, 1)", no++, x.join(what, 1, 1), NO);
      due.refused(x, "19 join(w, 0, 2), SAME is 0", no++, x.join(what, 0, 2), NO);
    }
    due.refused(x, "18 same(2, 9, 9)", no++, x.same(2, 9, 9), NO);
    due.refused(x, "18 same(-1, 9, 0)", no++, x.same(-1, 9, 0), NO);
    due.refused(x, "19 join(2, 9, 0)", no++, x.join(2, 9, 0), NO);
    due.refused(x, "19 join(-1, 0, 1)", no++, x.join(-1, 0, 1), NO);
    due.is("19 count(8)", x.count(8), 3);
    due.is("19 count(9)", x.count(9), 3);
  }

  private static void joinEditions() {
    LoanPence x = new LoanPence();
    for (int i = 0; i < 6; i++) {
      x.edition(0, 1, 0);
    }
    due.is("19 join(0, 5, 4)", x.join(0, 5, 4), 4);
    due.is("19 join(0, 2, 3)", x.join(0, 2, 3), 2);
    due.is("19 count(8)", x.count(8), 4);
    due.is("19 join(0, 3, 5) joins all of both", x.join(0, 3, 5), 2);
    int[] books = {0, 1, 2, 2, 2, 2};
    for (int e = 0; e < 6; e++) {
      due.is("19 editionOf(" + e + ", 3)", x.editionOf(e, 3), books[e]);
    }
    due.is("19 join(0, 5, 2) again", x.join(0, 5, 2), 2);
    due.is("19 join(0, 1, 4)", x.join(0, 1, 4), 1);
    due.is("19 editionOf(3, 3)", x.editionOf(3, 3), 1);
    due.is("19 count(8)", x.count(8), 2);
    due.is("19 PERSONS stay as they are", x.count(9), 0);
  }

  private static void joinPersons() {
    LoanPence x = new LoanPence();
    x.person(5, 0, -30);
    x.person(5, 0, -100);
    x.person(5, 0, -29);
    x.person(5, 0, -29);
    due.is("19 join(1, 3, 2)", x.join(1, 3, 2), 2);
    due.is("19 join(1, 3, 1)", x.join(1, 3, 1), 1);
    due.is("19 personOf(2, 4)", x.personOf(2, 4), 1);
    due.is("19 join(1, 0, 1), though 0 and 2 are never SAME", x.join(1, 0, 1), 0);
    due.is("19 personOf(2, 4)", x.personOf(2, 4), 0);
    due.is("19 personOf(3, 4)", x.personOf(3, 4), 0);
    due.is("19 count(9)", x.count(9), 1);
    due.refused(x, "19 join(1, 0, 2), SAME is 0 of one ONE", 0, x.join(1, 0, 2), NO);
  }
}
