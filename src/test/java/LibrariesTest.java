/** Promises 1 to 9: a new object, libraries, draws, loans as they are told and known. */
public final class LibrariesTest {
  private static final int BEYOND = LoanPence.BEYOND;
  private static final int KIND = LoanPence.KIND;
  private static final int NO = LoanPence.NO;
  private static final int FULL = LoanPence.FULL;
  private static final Due due = new Due("LibrariesTest");

  public static void main(String[] args) {
    newObject();
    library();
    draw();
    drawStays();
    all();
    lent();
    lentFull();
    put();
    entriesFull();
    known();
    look();
    year();
    due.end();
  }

  private static void newObject() {
    LoanPence x = new LoanPence();
    for (int what = 0; what <= 10; what++) {
      due.is("1 count(" + what + ")", x.count(what), 0);
    }
    for (int what = 0; what <= 8; what++) {
      due.is("1 year(0, " + what + ")", x.year(0, what), 0);
    }
    due.is("1 tear()", x.tear(), 0);
    due.is("1 wipe()", x.wipe(), 0);
    for (int by = -8; by <= -2; by++) {
      due.is("1 status(" + by + ")", x.status(by), 0);
    }
    due.is("1 back()", x.back(), LoanPence.MISSING);
  }

  private static void library() {
    LoanPence x = new LoanPence();
    due.refused(x, "2 library(-1, 1)", 0, x.library(-1, 1), NO);
    due.refused(x, "2 library(4, 1)", 1, x.library(4, 1), NO);
    due.refused(x, "2 library(0, 0)", 2, x.library(0, 0), NO);
    due.refused(x, "2 library(0, 100000)", 3, x.library(0, 100000), NO);
    due.is("2 count(1)", x.count(1), 0);
    for (int i = 0; i < 12; i++) {
      due.is("2 library " + i, x.library(i % 4, i == 0 ? 1 : 100000 - i), i);
    }
    due.refused(x, "2 library(0, 0) as there is no room", 4, x.library(0, 0), NO);
    due.refused(x, "2 library(0, 1) as there is no room", 0, x.library(0, 1), FULL);
    due.is("2 count(1)", x.count(1), 12);
    due.is("2 look(0, 1)", x.look(0, 1), 1);
    due.is("2 look(11, 0)", x.look(11, 0), 3);
    due.is("2 look(1, 1)", x.look(1, 1), 99999);
    due.is("2 look(11, 1)", x.look(11, 1), 99989);
  }

  private static void draw() {
    LoanPence x = new LoanPence();
    due.is("3 draw(0)", x.draw(0), 0);
    due.refused(x, "3 draw(1)", 0, x.draw(1), NO);
    x.library(0, 5);
    x.library(1, 5);
    x.library(1, 6);
    due.refused(x, "3 draw(8)", 1, x.draw(8), NO);
    due.refused(x, "3 draw(-1)", 2, x.draw(-1), NO);
    due.refused(x, "3 draw(Integer.MIN_VALUE)", 3, x.draw(Integer.MIN_VALUE), NO);
    due.is("3 draw(5)", x.draw(5), 2);
    due.is("3 year(0, 0)", x.year(0, 0), 5);
    due.is("3 draw(2)", x.draw(2), 1);
    due.is("3 year(0, 0)", x.year(0, 0), 2);
    x.edition(0, 1, 0);
    x.lent(1, 0, 1);
    due.refused(x, "3 draw(2) behind LOANS", 4, x.draw(2), NO);
    due.is("3 year(0, 0)", x.year(0, 0), 2);
  }

  private static void drawStays() {
    LoanPence x = new LoanPence();
    x.library(0, 5);
    x.library(0, 6);
    x.edition(0, 1, 0);
    x.draw(1);
    x.lent(0, 0, 3);
    x.close();
    due.is("3 the next YEAR has those ahead", x.year(1, 0), 1);
    due.is("3 put(0, 0, 0, 9) is no ENTRY of the open YEAR", x.put(0, 0, 0, 9), 3);
    due.is("3 draw(2)", x.draw(2), 1);
    due.is("3 the YEAR ahead keeps its own", x.year(0, 0), 1);
    x.close();
    due.is("3 year(2, 0)", x.year(2, 0), 2);
  }

  private static void all() {
    LoanPence x = new LoanPence();
    due.refused(x, "4 all(-1, 0)", 0, x.all(-1, 0), BEYOND);
    due.refused(x, "4 all(4, -1)", 1, x.all(4, -1), BEYOND);
    due.refused(x, "4 all(0, -1)", 0, x.all(0, -1), NO);
    due.refused(x, "4 all(0, 10000000)", 1, x.all(0, 10000000), NO);
    due.is("4 all(0, 9999999)", x.all(0, 9999999), 0);
    due.is("4 all(0, 0)", x.all(0, 0), 9999999);
    due.is("4 all(3, 7)", x.all(3, 7), 0);
    due.is("4 all(3, 8)", x.all(3, 8), 7);
    x.close();
    due.is("4 year(1, 4) is 0 till it is told", x.year(1, 4), 0);
    due.is("4 all(3, 9)", x.all(3, 9), 0);
    due.is("4 year(0, 4)", x.year(0, 4), 8);
  }

  private static void lent() {
    LoanPence x = new LoanPence();
    x.library(0, 5);
    x.library(0, 6);
    x.edition(0, 1, 0);
    x.draw(1);
    due.refused(x, "5 lent(2, 0, 1)", 0, x.lent(2, 0, 1), BEYOND);
    due.refused(x, "5 lent(-1, 0, 1)", 1, x.lent(-1, 0, 1), BEYOND);
    due.refused(x, "5 lent(1, 1, 0)", 2, x.lent(1, 1, 0), BEYOND);
    due.refused(x, "5 lent(0, -1, 0)", 3, x.lent(0, -1, 0), BEYOND);
    due.refused(x, "5 lent(1, 0, 0)", 0, x.lent(1, 0, 0), KIND);
    due.refused(x, "5 lent(0, 0, 0)", 0, x.lent(0, 0, 0), NO);
    due.refused(x, "5 lent(0, 0, 100000)", 1, x.lent(0, 0, 100000), NO);
    due.refused(x, "5 lent(0, 0, -5)", 2, x.lent(0, 0, -5), NO);
    due.is("5 count(6)", x.count(6), 0);
    due.is("5 lent(0, 0, 7)", x.lent(0, 0, 7), 7);
    due.is("5 lent(0, 0, 1)", x.lent(0, 0, 1), 8);
    due.is("5 told again changes its ENTRY", x.count(6), 1);
    x.close();
    due.is("5 lent(0, 0, 2) in the next YEAR", x.lent(0, 0, 2), 2);
    due.is("5 count(6)", x.count(6), 2);
  }

  private static void lentFull() {
    LoanPence x = new LoanPence();
    x.library(0, 5);
    x.edition(0, 1, 0);
    x.draw(1);
    for (int i = 0; i < 100; i++) {
      x.lent(0, 0, 99999);
    }
    due.is("5 known(0, 0, 0)", x.known(0, 0, 0), 9999900);
    due.refused(x, "5 lent(0, 0, 100)", 0, x.lent(0, 0, 100), FULL);
    due.is("5 lent(0, 0, 99)", x.lent(0, 0, 99), 9999999);
    due.refused(x, "5 lent(0, 0, 1)", 1, x.lent(0, 0, 1), FULL);
    due.refused(x, "5 lent(0, 0, 0)", 0, x.lent(0, 0, 0), NO);
  }

  private static void put() {
    LoanPence x = new LoanPence();
    x.library(0, 5);
    x.library(0, 6);
    x.edition(0, 1, 0);
    x.draw(1);
    x.lent(0, 0, 7);
    due.refused(x, "6 put(0, 0, 0, 1) while it is open", 0, x.put(0, 0, 0, 1), BEYOND);
    x.close();
    due.refused(x, "6 put(-1, 0, 0, 1)", 1, x.put(-1, 0, 0, 1), BEYOND);
    due.refused(x, "6 put(0, 2, 0, 1)", 2, x.put(0, 2, 0, 1), BEYOND);
    due.refused(x, "6 put(0, 1, 1, -1)", 3, x.put(0, 1, 1, -1), BEYOND);
    due.refused(x, "6 put(0, 1, 0, -1)", 0, x.put(0, 1, 0, -1), KIND);
    due.refused(x, "6 put(0, 0, 0, -1)", 0, x.put(0, 0, 0, -1), NO);
    due.refused(x, "6 put(0, 0, 0, 10000000)", 1, x.put(0, 0, 0, 10000000), NO);
    due.is("6 put(0, 0, 0, 0)", x.put(0, 0, 0, 0), 7);
    due.is("6 put(0, 0, 0, 9999999)", x.put(0, 0, 0, 9999999), 0);
    due.is("6 told again changes its ENTRY", x.count(6), 2);
    due.is("6 draw(2)", x.draw(2), 1);
    due.is("6 put(0, 0, 0, 5), DRAWN in that YEAR", x.put(0, 0, 0, 5), 9999999);
    due.refused(x, "6 put(0, 1, 0, 5), DRAWN in the open one", 1, x.put(0, 1, 0, 5), KIND);
    x.close();
    due.is("6 put(0, 0, 0, 5) in another YEAR", x.put(0, 0, 0, 5), 5);
    due.is("6 is an ENTRY of its own", x.count(6), 3);
  }

  private static void entriesFull() {
    LoanPence x = new LoanPence();
    for (int i = 0; i < 12; i++) {
      x.library(0, 5);
    }
    for (int i = 0; i < 30; i++) {
      x.edition(0, i, 0);
    }
    x.draw(4095);
    for (int i = 0; i < 360; i++) {
      x.lent(i / 30, i % 30, 1);
    }
    x.close();
    for (int i = 0; i < 40; i++) {
      x.lent(i / 30, i % 30, 2);
    }
    due.is("5 count(6)", x.count(6), 400);
    due.refused(x, "5 lent(2, 0, 1) with 400 ENTRIES", 0, x.lent(2, 0, 1), FULL);
    due.refused(x, "6 put(0, 0, 0, 1) with 400 ENTRIES", 1, x.put(0, 0, 0, 1), FULL);
    due.is("5 lent(1, 9, 1) changes one", x.lent(1, 9, 1), 3);
    due.is("5 count(6)", x.count(6), 400);
    due.is("6 known(0, 0, 1)", x.known(0, 0, 1), 1);
  }

  private static void known() {
    LoanPence x = new LoanPence();
    x.library(0, 5);
    x.library(0, 6);
    x.edition(0, 1, 0);
    x.edition(0, 2, 0);
    x.draw(2);
    x.lent(1, 1, 6);
    x.close();
    x.close();
    x.put(0, 1, 1, 4);
    x.close();
    x.put(0, 1, 1, 0);
    due.is("7 known(0, 101, 0)", x.known(0, 101, 0), 6);
    due.is("7 known(0, 101, 1)", x.known(0, 101, 1), 6);
    due.is("7 known(0, 101, 2)", x.known(0, 101, 2), 4);
    due.is("7 known(0, 101, 3)", x.known(0, 101, 3), 0);
    due.is("7 known(1, 101, 3)", x.known(1, 101, 3), 0);
    due.is("7 known(3, 101, 0) ahead of its YEAR", x.known(3, 101, 0), 0);
    due.is("7 known(0, 100, 3)", x.known(0, 100, 3), 0);
    due.is("7 no refusal so far", x.status(BEYOND), 0);
    due.refusedAsZero(x, "7 known(4, 101, 0)", 0, x.known(4, 101, 0), BEYOND);
    due.refusedAsZero(x, "7 known(-1, 101, 0)", 1, x.known(-1, 101, 0), BEYOND);
    due.refusedAsZero(x, "7 known(0, 101, 4)", 2, x.known(0, 101, 4), BEYOND);
    due.refusedAsZero(x, "7 known(0, 101, -1)", 3, x.known(0, 101, -1), BEYOND);
    due.refusedAsZero(x, "7 known(0, 102, 0)", 4, x.known(0, 102, 0), BEYOND);
    due.refusedAsZero(x, "7 known(0, 201, 0)", 5, x.known(0, 201, 0), BEYOND);
    due.refusedAsZero(x, "7 known(0, -1, 0)", 6, x.known(0, -1, 0), BEYOND);
    due.refusedAsZero(x, "7 known(0, -100, 0)", 7, x.known(0, -100, 0), BEYOND);
  }

  private static void look() {
    LoanPence x = new LoanPence();
    x.library(2, 77);
    x.library(3, 88);
    x.edition(0, 1, 0);
    x.edition(0, 2, 0);
    x.draw(2);
    x.lent(1, 0, 5);
    x.lent(1, 1, 6);
    due.is("8 look(0, 0)", x.look(0, 0), 2);
    due.is("8 look(1, 1)", x.look(1, 1), 88);
    due.is("8 look(0, 2)", x.look(0, 2), 0);
    due.is("8 look(1, 2)", x.look(1, 2), 1);
    due.is("8 look(0, 3)", x.look(0, 3), 0);
    due.is("8 look(1, 3)", x.look(1, 3), 11);
    x.close();
    x.put(0, 1, 0, 50);
    due.is("8 look(1, 3) in the next YEAR", x.look(1, 3), 0);
    due.refused(x, "8 look(2, 9)", 0, x.look(2, 9), BEYOND);
    due.refused(x, "8 look(-1, 0)", 1, x.look(-1, 0), BEYOND);
    due.refused(x, "8 look(0, 4)", 0, x.look(0, 4), NO);
    due.refused(x, "8 look(0, -1)", 1, x.look(0, -1), NO);
  }

  private static void year() {
    LoanPence x = new LoanPence();
    x.library(0, 5);
    x.library(0, 6);
    x.draw(3);
    for (int r = 0; r < 4; r++) {
      x.all(r, 10 + r);
    }
    x.fund(99);
    due.is("9 year(0, 5)", x.year(0, 5), 99);
    due.is("9 year(0, 6) of the open one", x.year(0, 6), 0);
    due.is("9 year(0, 8) of the open one", x.year(0, 8), 0);
    x.close();
    due.is("9 year(0, 0)", x.year(0, 0), 3);
    for (int r = 0; r < 4; r++) {
      due.is("9 year(0, " + (r + 1) + ")", x.year(0, r + 1), 10 + r);
      due.is("9 year(1, " + (r + 1) + ")", x.year(1, r + 1), 0);
    }
    due.is("9 year(0, 6)", x.year(0, 6), 99);
    due.is("9 year(0, 7)", x.year(0, 7), 0);
    due.is("9 year(0, 8)", x.year(0, 8), 99);
    due.is("9 year(1, 0)", x.year(1, 0), 3);
    due.is("9 year(1, 5)", x.year(1, 5), 0);
    due.refusedAsZero(x, "9 year(2, 9)", 0, x.year(2, 9), BEYOND);
    due.refusedAsZero(x, "9 year(-1, 0)", 1, x.year(-1, 0), BEYOND);
    due.refusedAsZero(x, "9 year(0, 9)", 0, x.year(0, 9), NO);
    due.refusedAsZero(x, "9 year(1, -1)", 1, x.year(1, -1), NO);
  }
}
