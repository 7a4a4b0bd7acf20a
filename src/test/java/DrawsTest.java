/** Promises 32 to 39: draws and their widths, moved loans, spans, counts and images. */
public final class DrawsTest {
  private static final int NONE = LoanPence.NONE;
  private static final int MISSING = LoanPence.MISSING;
  private static final int BEYOND = LoanPence.BEYOND;
  private static final int BELOW = LoanPence.BELOW;
  private static final int KIND = LoanPence.KIND;
  private static final int NO = LoanPence.NO;
  private static final Due due = new Due("DrawsTest");

  public static void main(String[] args) {
    bestDrawRefused();
    bestDraw();
    bestDrawOfLikeOnes();
    judge();
    moved();
    movedStrictly();
    movedRefused();
    span();
    count();
    image();
    due.end();
  }

  private static void bestDrawRefused() {
    LoanPence x = new LoanPence();
    due.refused(x, "32 bestDraw(-1)", 0, x.bestDraw(-1), BELOW);
    due.refused(x, "32 bestDraw(0), no YEAR is closed", 0, x.bestDraw(0), NO);
    x.close();
    due.is("32 bestDraw(0) of no LIBRARY", x.bestDraw(0), 0);
    due.refused(x, "32 bestDraw(1)", 1, x.bestDraw(1), NO);
    x.library(1, 5);
    due.is("32 bestDraw(0)", x.bestDraw(0), NONE);
    due.is("32 bestDraw(1)", x.bestDraw(1), 1);
    due.refused(x, "32 bestDraw(2)", 2, x.bestDraw(2), NO);
    due.refused(x, "32 bestDraw(-9)", 1, x.bestDraw(-9), BELOW);
  }

  private static LoanPence land() {
    LoanPence x = new LoanPence();
    x.library(0, 10); // 0
    x.library(0, 25); // 1
    x.library(2, 40); // 2
    x.library(2, 30); // 3
    x.library(2, 80); // 4
    x.all(0, 1000);
    x.all(1, 9999999);
    x.all(2, 2000);
    x.close();
    return x;
  }

  private static void bestDraw() {
    LoanPence x = land();
    due.is("32 one REGION would have none", x.bestDraw(1), NONE);
    // 1000 by 25 is 40; of REGION 2 the greatest has 25, the others 50 and 66
    due.is("32 bestDraw(2)", x.bestDraw(2), 2 + 16);
    // 0 and 1 have 28, then 4 has 25
    due.is("32 bestDraw(3)", x.bestDraw(3), 1 + 2 + 16);
    // 2000 by 70 is 28, as 1000 by 35 is
    due.is("32 bestDraw(4)", x.bestDraw(4), 1 + 2 + 4 + 8);
    due.is("32 bestDraw(5)", x.bestDraw(5), 31);
    x.all(0, 0);
    x.all(2, 5);
    due.is("32 by the last closed YEAR alone", x.bestDraw(2), 2 + 16);
    x.close();
    due.is("32 all WIDTHS are 0 then", x.bestDraw(2), 1 + 4);
  }

  private static void bestDrawOfLikeOnes() {
    LoanPence x = new LoanPence();
    for (int i = 0; i < 5; i++) {
      x.library(3, 10);
    }
    x.all(3, 100);
    x.close();
    due.is("32 like ones, none DRAWN", x.bestDraw(2), 3);
    x.draw(1);
    due.is("32 those that are not DRAWN", x.bestDraw(2), 2 + 4);
    x.draw(7);
    due.is("32 two are not DRAWN", x.bestDraw(2), 8 + 16);
    due.is("32 and one more", x.bestDraw(3), 1 + 8 + 16);
    x.draw(15);
    due.is("32 one is not DRAWN", x.bestDraw(1), 16);
    due.is("32 one is not DRAWN", x.bestDraw(2), 1 + 16);
    x.library(3, 11);
    x.draw(32);
    due.is("32 100 by 11 is the least, though it is DRAWN", x.bestDraw(1), 32);
    due.is("32 100 by 20 and by 21, cut", x.bestDraw(2), 32 + 1);
    x.close();
    due.is("32 DRAWN as in the YEAR ahead", x.bestDraw(1), 1);
  }

  private static void judge() {
    LoanPence x = land();
    due.refused(x, "33 judge()", 0, x.judge(), MISSING);
    x.lay(2);
    due.is("33 judge() with 0 twice", x.judge(), NONE);
    x.set(1, 2);
    due.is("33 judge() of 0 and 2", x.judge(), 100);
    x.set(0, 1);
    due.is("33 judge() of 1 and 2", x.judge(), 50);
    x.set(0, 2);
    x.set(1, 1);
    due.is("33 judge() of 2 and 1", x.judge(), 50);
    x.set(0, 0);
    due.is("33 judge() of 0 and 1", x.judge(), NONE);
    x.set(0, 5);
    due.is("33 judge() of 5 and 1", x.judge(), NONE);
    x.set(0, -1);
    due.is("33 judge() of -1 and 1", x.judge(), NONE);
    x.set(0, 33);
    due.is("33 judge() of 33 and 1", x.judge(), NONE);
    x.lay(5);
    for (int i = 0; i < 5; i++) {
      x.set(i, 4 - i);
    }
    due.is("33 judge() of all", x.judge(), 28);
    x.lay(0);
    due.is("33 judge() of none", x.judge(), NONE);
    due.is("33 NONE is no refusal", x.status(NO), 0);
    LoanPence y = new LoanPence();
    y.lay(0);
    due.refused(y, "33 judge(), no YEAR is closed", 0, y.judge(), NO);
    y.close();
    due.is("33 judge() without LIBRARIES", y.judge(), 0);
    y.tear();
    due.refused(y, "33 judge()", 0, y.judge(), MISSING);
  }

  private static void moved() {
    LoanPence x = new LoanPence();
    x.library(0, 1);
    x.library(1, 1);
    x.library(1, 1);
    x.edition(0, 0, 0);
    x.edition(0, 1, 0);
    x.draw(3);
    due.is("34 moved(0, 0) without LOANS", x.moved(0, 0), 0);
    due.is("35 movedMany(0) without LOANS", x.movedMany(0), 0);
    x.lent(0, 0, 24);
    x.lent(1, 1, 24);
    // e is 24 times 24 by 48, that is 12, its root 3: the bound is 12 and 3 times 4
    due.is("34 moved(0, 0) at the bound", x.moved(0, 0), 0);
    x.lent(1, 1, 1);
    // 24 times 24 by 49 is 11, its root 3: 11 and 12
    due.is("34 moved(0, 0) above it", x.moved(0, 0), 1);
    // 25 times 25 by 49 is 12: 12 and 12
    due.is("34 moved(0, 101) above it", x.moved(0, 101), 1);
    due.is("34 moved(0, 1)", x.moved(0, 1), 0);
    due.is("35 movedMany(0)", x.movedMany(0), 2);
    x.close();
    due.is("34 moved(1, 0)", x.moved(1, 0), 0);
    due.is("35 movedMany(1)", x.movedMany(1), 0);
    x.put(0, 0, 0, 23);
    // 23 times 23 by 48 is 11: 11 and 12
    due.is("34 moved(0, 0) as KNOWN now", x.moved(0, 0), 0);
    due.is("35 movedMany(0) as KNOWN now", x.movedMany(0), 0);
  }

  /** Z grows by 1 with each 8 pairs that have LOANS. */
  private static void movedStrictly() {
    LoanPence x = new LoanPence();
    x.library(0, 1);
    x.library(0, 1);
    for (int e = 0; e < 9; e++) {
      x.edition(0, e, 0);
    }
    x.draw(3);
    x.lent(0, 0, 29);
    for (int e = 1; e < 7; e++) {
      x.lent(1, e, 6);
    }
    // 7 pairs, 29 times 29 by 65 is 12, its root 3: 12 and 3 times 4
    due.is("34 moved(0, 0) with 7 pairs", x.moved(0, 0), 1);
    x.lent(1, 7, 3);
    // 8 pairs, 29 times 29 by 68 is 12: 12 and 4 times 4 is 28
    due.is("34 moved(0, 0) with 8 pairs", x.moved(0, 0), 1);
    x.close();
    x.put(0, 0, 0, 28);
    // 28 times 28 by 67 is 11: 11 and 16
    due.is("34 moved(0, 0) of 28", x.moved(0, 0), 1);
    x.put(0, 0, 0, 27);
    // 27 times 27 by 66 is 11
    due.is("34 moved(0, 0) of 27", x.moved(0, 0), 0);
    x.put(0, 1, 7, 0);
    // 7 pairs again, 27 times 27 by 63 is 11: 11 and 12
    due.is("34 moved(0, 0) of 27 with 7 pairs", x.moved(0, 0), 1);
  }

  private static void movedRefused() {
    LoanPence x = new LoanPence();
    x.library(0, 1);
    x.library(0, 1);
    x.edition(0, 1, 0);
    x.draw(1);
    int[][] wrong = {{1, 0}, {-1, 0}, {0, 200}, {0, 1}, {0, 101}, {0, -1}, {0, -100}, {0, Integer.MIN_VALUE}};
    for (int i = 0; i < wrong.length; i++) {
      due.refused(x, "34 moved, wrong " + i, i, x.moved(wrong[i][0], wrong[i][1]), BEYOND);
    }
    due.refused(x, "34 moved(0, 100)", 0, x.moved(0, 100), KIND);
    due.is("34 moved(0, 0)", x.moved(0, 0), 0);
    x.close();
    x.draw(2);
    due.refused(x, "34 moved(1, 0)", 1, x.moved(1, 0), KIND);
    due.is("34 moved(0, 0), DRAWN in that YEAR", x.moved(0, 0), 0);
    due.refused(x, "35 movedMany(2)", wrong.length, x.movedMany(2), BEYOND);
    due.refused(x, "35 movedMany(-1)", wrong.length + 1, x.movedMany(-1), BEYOND);
  }

  private static void span() {
    LoanPence x = new LoanPence();
    x.library(0, 1);
    x.library(0, 1);
    x.library(1, 1);
    x.library(2, 1);
    x.edition(0, 0, 0);
    x.edition(0, 1, 0);
    x.draw(15);
    x.all(0, 100);
    x.all(1, 50);
    x.all(2, 9999999);
    due.is("36 span(0, 0, 1) without LOANS", x.span(0, 0, 1), 0);
    x.lent(0, 0, 4);
    x.lent(1, 0, 4);
    x.lent(0, 1, 7);
    x.lent(2, 1, 9);
    // REGION 0: c is 8 of 15, s is 2: 600 by 15 and 1100 by 15; REGION 1: 0 of 9: 0 and 50 by 9
    due.is("36 span(0, 0, 0)", x.span(0, 0, 0), 40);
    due.is("36 span(0, 0, 1)", x.span(0, 0, 1), 73 + 5);
    // REGION 0: 7 of 15, s is 2: 500 by 15 and 1000 by 15; REGION 1: 9 of 9, s is 3: 300 by 9 and 650 by 9
    due.is("36 span(0, 1, 0)", x.span(0, 1, 0), 33 + 33);
    due.is("36 span(0, 1, 1)", x.span(0, 1, 1), 66 + 72);
    x.close();
    x.put(0, 0, 1, 0);
    x.put(0, 1, 0, 0);
    due.is("36 as KNOWN now, the least", x.span(0, 0, 0), 50);
    due.is("36 as KNOWN now, the most", x.span(0, 0, 1), 175 + 5);
    due.is("36 span(1, 0, 1)", x.span(1, 0, 1), 0);
    due.refusedAsZero(x, "36 span(2, 0, 9)", 0, x.span(2, 0, 9), BEYOND);
    due.refusedAsZero(x, "36 span(-1, 0, 0)", 1, x.span(-1, 0, 0), BEYOND);
    due.refusedAsZero(x, "36 span(0, 2, 0)", 2, x.span(0, 2, 0), BEYOND);
    due.refusedAsZero(x, "36 span(0, -1, 0)", 3, x.span(0, -1, 0), BEYOND);
    due.refusedAsZero(x, "36 span(0, 0, 2)", 0, x.span(0, 0, 2), NO);
    due.refusedAsZero(x, "36 span(0, 0, -1)", 1, x.span(0, 0, -1), NO);
  }

  private static LoanPence full() {
    LoanPence x = new LoanPence();
    x.library(0, 1);
    x.library(1, 2);
    for (int e = 0; e < 3; e++) {
      x.edition(0, 1, 0);
    }
    for (int p = 0; p < 4; p++) {
      x.person(1, 0, -50);
    }
    x.draw(2);
    for (int s = 0; s < 5; s++) {
      x.share(s % 3, 10 * (s % 4) + s, 20);
    }
    x.join(0, 0, 2);
    x.join(1, 3, 1);
    x.heir(2, 0, 70);
    x.died(2, 0);
    Tapes.rule(x, "most 40", 0, 100);
    x.lent(1, 0, 6);
    x.lent(1, 1, 6);
    x.all(1, 60);
    x.fund(200);
    x.close();
    x.put(0, 1, 2, 4);
    Tapes.feed(x, "least 3");
    return x;
  }

  private static void count() {
    LoanPence x = full();
    int[] want = {1, 2, 3, 4, 5, 1, 3, 7, 2, 3, 1};
    for (int what = 0; what <= 10; what++) {
      due.is("37 count(" + what + ")", x.count(what), want[what]);
    }
    due.refused(x, "37 count(11)", 0, x.count(11), NO);
    due.refused(x, "37 count(-1)", 1, x.count(-1), NO);
  }

  private static void image() {
    LoanPence x = new LoanPence();
    due.refused(x, "39 back()", 0, x.back(), MISSING);
    x.library(0, 1);
    due.is("38 image()", x.image(), 0);
    x.lay(2);
    x.set(0, 8);
    Tapes.feed(x, "who");
    x.library(9, 9);
    x.library(1, 1);
    x.close();
    due.is("39 back()", x.back(), 0);
    due.is("39 count(1)", x.count(1), 1);
    due.is("39 THE ROW stays", x.row(0), 8);
    due.is("39 THE TAPE stays", x.count(7), 3);
    due.is("39 status(NO) stays", x.status(NO), 1);
    x.close();
    x.close();
    due.is("38 image() takes the place of the one ahead", x.image(), 2);
    x.close();
    due.is("39 back()", x.back(), 2);
    x.library(1, 1);
    due.is("39 back() again", x.back(), 2);
    due.is("39 count(1)", x.count(1), 1);
    due.is("39 count(0)", x.count(0), 2);
  }
}
