/** The edges of the land itself: its last YEAR, and all LIBRARIES, EDITIONS, PERSONS, SHARES and RULES. */
public final class EdgesTest {
  private static final Due due = new Due("EdgesTest");

  public static void main(String[] args) {
    lastYear();
    lastPair();
    lastPerson();
    lastShare();
    lastRule();
    longestTape();
    greatest();
    due.end();
  }

  private static void lastYear() {
    LoanPence x = new LoanPence();
    x.library(3, 99999);
    x.library(3, 1);
    x.draw(1);
    x.edition(0, 1, 0);
    x.person(1, 0, 0);
    x.share(0, 0, 100);
    for (int y = 0; y < 39; y++) {
      x.close();
    }
    x.lent(0, 0, 4);
    x.all(3, 400);
    x.fund(77);
    due.is("26 close() of 39", x.close(), 1);
    due.is("30 paid(39, 0, 0)", x.paid(39, 0, 0), 77);
    due.is("30 paid(39, 0, 1)", x.paid(39, 0, 1), 77);
    due.is("30 paid(39, 0, 3)", x.paid(39, 0, 3), 77);
    due.is("9 year(39, 6)", x.year(39, 6), 77);
    due.is("8 look(0, 2)", x.look(0, 2), 1);
    due.is("32 bestDraw(1)", x.bestDraw(1), 1);
    due.is("3 draw(3)", x.draw(3), 2);
    for (int r = 0; r < 4; r++) {
      due.is("4 all(r, 5)", x.all(r, 5 + r), 0);
      due.is("9 year(40, 1 + r)", x.year(40, 1 + r), 5 + r);
    }
    due.is("25 fund(8)", x.fund(8), 0);
    due.is("10 edition(0, 1, 40)", x.edition(0, 1, 40), 1);
    due.is("10 edition(0, 1, 41)", x.edition(0, 1, 41), LoanPence.NO);
    due.is("11 person(1, 0, 40)", x.person(1, 0, 40), 1);
    due.is("12 died(1, 40)", x.died(1, 40), -100);
    due.is("14 share(1, 10, 50)", x.share(1, 10, 50), 1);
    due.is("17 shareOf(1, 4)", x.shareOf(1, 4), 40);
    due.is("5 lent(1, 1, 3)", x.lent(1, 1, 3), 3);
    due.is("7 known(40, 101, 40)", x.known(40, 101, 40), 3);
    due.is("6 put(39, 0, 0, 9)", x.put(39, 0, 0, 9), 4);
    due.is("7 known(39, 0, 39)", x.known(39, 0, 39), 4);
    due.is("7 known(39, 0, 40)", x.known(39, 0, 40), 9);
    due.is("27 estimate(40, 1, 40)", x.estimate(40, 1, 40), 8);
    due.is("28 book(40, 1)", x.book(40, 1), 8);
    due.is("29 points(40, 1)", x.points(40, 1), 48);
    due.is("36 span(40, 1, 1)", x.span(40, 1, 1), 8 * 5 / 3);
    due.is("34 moved(40, 101)", x.moved(40, 101), 0);
    due.is("35 movedMany(40)", x.movedMany(40), 0);
    for (int what = 6; what <= 8; what++) {
      due.is("9 year(40, what)", x.year(40, what), 0);
    }
    due.is("23 says(3, 40, -1)", x.says(3, 40, -1), 0);
    due.is("26 close() of 40", x.close(), LoanPence.FULL);
    due.is("9 year(40, 5)", x.year(40, 5), 8);
    due.is("38 image()", x.image(), 40);
    due.is("39 back()", x.back(), 40);
  }

  private static LoanPence wide() {
    LoanPence x = new LoanPence();
    for (int l = 0; l < 12; l++) {
      x.library(l % 4, 10);
    }
    for (int e = 0; e < 30; e++) {
      x.edition(0, e, 0);
    }
    for (int p = 0; p < 20; p++) {
      x.person(p, 0, -20);
    }
    x.draw(4095);
    return x;
  }

  private static void lastPair() {
    LoanPence x = wide();
    x.lent(11, 29, 5);
    x.all(3, 100);
    x.all(0, 1000);
    x.close();
    x.lent(0, 0, 7);
    x.all(0, 50);
    x.all(3, 60);
    due.is("7 known(0, 1129, 1)", x.known(0, 1129, 1), 5);
    due.is("7 known(1, 1129, 1)", x.known(1, 1129, 1), 0);
    due.is("27 estimate(0, 29, 1)", x.estimate(0, 29, 1), 100);
    due.is("27 estimate(0, 0, 1)", x.estimate(0, 0, 1), 0);
    due.is("27 estimate(1, 0, 1)", x.estimate(1, 0, 1), 50);
    due.is("27 estimate(1, 29, 1)", x.estimate(1, 29, 1), 0);
    due.is("8 look(11, 3)", x.look(11, 3), 0);
    due.is("8 look(0, 3)", x.look(0, 3), 7);
    due.is("6 put(0, 11, 29, 6)", x.put(0, 11, 29, 6), 5);
    due.is("34 moved(0, 1129)", x.moved(0, 1129), 0);
    due.is("35 movedMany(0)", x.movedMany(0), 0);
    due.is("28 book(0, 29)", x.book(0, 29), 100);
    due.is("28 book(0, 0)", x.book(0, 0), 0);
    due.is("36 span(0, 29, 1)", x.span(0, 29, 1), 100 * 9 / 6);
    due.is("32 bestDraw(12)", x.bestDraw(12), 4095);
    due.is("32 bestDraw(4)", x.bestDraw(4), 15);
    x.lay(12);
    for (int i = 0; i < 12; i++) {
      x.set(i, 11 - i);
    }
    due.is("33 judge()", x.judge(), 1000 / 30);
  }

  private static void lastPerson() {
    LoanPence x = wide();
    for (int p = 0; p < 20; p++) {
      x.share(p + 10, 10 * p, 100);
      x.lent(0, p + 10, 1);
    }
    x.all(0, 20);
    x.fund(41);
    due.is("26 close()", x.close(), 20);
    due.is("30 paid(0, 0, 0)", x.paid(0, 0, 0), 3);
    due.is("30 paid(0, 1, 0)", x.paid(0, 1, 0), 2);
    due.is("30 paid(0, 19, 0)", x.paid(0, 19, 0), 2);
    x.put(0, 0, 29, 20);
    Tapes.rule(x, "late 1", 0, 100);
    x.fund(10);
    // 20 of 39 by 20 is 10 and 10/39, the others 20/39 each: 10 of them get one, the last of them EDITION 19
    due.is("29 points(0, 19)", x.points(0, 19), 120);
    due.is("30 paid(0, 19, 1)", x.paid(0, 19, 1), 21);
    due.is("26 close()", x.close(), 1);
    due.is("30 paid(0, 19, 0)", x.paid(0, 19, 0), 12);
    due.is("30 paid(1, 19, 3)", x.paid(1, 19, 3), 10);
    x.died(18, -1);
    due.is("13 heir(18, 19, 100)", x.heir(18, 19, 100), 0);
    x.died(9, -1);
    x.heir(9, 19, 50);
    due.is("29 points(0, 19) with an HEIR's", x.points(0, 19), 126);
    due.is("13 heir(19, 0, 30)", x.heir(19, 0, 30), 0);
    due.is("16 personOf(18, 5)", x.personOf(18, 5), 100);
    due.is("16 personOf(19, 5)", x.personOf(19, 5), 30);
    x.died(19, -1);
    due.is("29 points(0, 0) with an HEIR's", x.points(0, 0), 12 + 36 + 1);
    x.heir(9, 19, 0);
    due.is("29 points(0, 0) with an HEIR's", x.points(0, 0), 12 + 36);
  }

  private static void lastShare() {
    LoanPence x = wide();
    for (int s = 0; s < 60; s++) {
      x.share(s / 2, 10 * (s % 20) + s % 5, 50);
    }
    due.is("14 the 60th", x.count(4), 60);
    due.is("15 editionOf(29, 4)", x.editionOf(29, 4), 100);
    due.is("15 editionOf(0, 4)", x.editionOf(0, 4), 100);
    x.lent(1, 29, 1);
    x.all(1, 10);
    due.is("29 points(0, 19)", x.points(0, 19), 60);
    due.is("29 points(0, 18)", x.points(0, 18), 60);
    Tapes.rule(x, "who role < 4", 0, 1);
    due.is("23 says(0, 0, 59)", x.says(0, 0, 59), 0);
    due.is("29 points(0, 19) with a RULE", x.points(0, 19), 0);
    due.is("18 same(0, 28, 29)", x.same(0, 28, 29), 0);
  }

  private static void lastRule() {
    LoanPence x = wide();
    for (int i = 0; i < 12; i++) {
      due.is("22 rule", Tapes.rule(x, "most " + (100 + i) + " if year < " + (12 - i), 0, 40), i);
    }
    for (int y = 0; y < 12; y++) {
      due.is("24 why(3, y, -1)", x.why(3, y, -1), 11 - y);
      due.is("23 says(3, y, -1)", x.says(3, y, -1), 111 - y);
      x.close();
    }
    due.is("24 why(3, 12, -1)", x.why(3, 12, -1), LoanPence.NONE);
    due.is("31 gain(0, 19, 11)", x.gain(0, 19, 11), 0);
  }

  private static void longestTape() {
    LoanPence x = new LoanPence();
    for (int i = 0; i < 30; i++) {
      x.feed(0x28282828, 4);
    }
    due.is("22 120 times (", x.rule(0, 1), -10);
    x.wipe();
    x.feed(0x77686f, 3);
    for (int i = 0; i < 29; i++) {
      x.feed(0x28282828, 4);
    }
    x.feed('(', 1);
    due.is("22 who and 117 times (", x.rule(0, 1), -19);
    StringBuilder text = new StringBuilder("who");
    for (int i = 0; i < 39; i++) {
      text.append("1*-");
    }
    due.is("22 so many * and -", Tapes.rule(x, text.toString(), 0, 1), -130);
    StringBuilder chain = new StringBuilder("who1");
    while (chain.length() + 2 <= 120) {
      chain.append("%7");
    }
    due.is("22 so many %", Tapes.rule(x, chain.toString(), 0, 1), 0);
    due.is("23 says(0, 0, -1)", x.says(0, 0, -1), 1);
    due.is("22 six deep with all that waits", Tapes.rule(x,
        "most 0 or 1 and 1+1*(0 or 1 and 1+1*(0 or 1 and 1+1*(0 or 1 and 1+1*(0 or 1 and 1+1*(0 or 1 and 2+3*4)))))", 0, 1),
        1);
    due.is("23 says(3, 0, -1)", x.says(3, 0, -1), 1);
  }

  /** The greatest numbers that can come together, where an int would wrap. */
  private static void greatest() {
    LoanPence x = new LoanPence();
    for (int r = 0; r < 4; r++) {
      x.library(r, 99999);
      x.all(r, 9999999);
    }
    x.draw(15);
    x.edition(0, 1, 0);
    x.edition(1, 1, 0);
    x.person(1, 0, 0);
    x.person(2, 0, 0);
    x.share(0, 0, 100);
    x.share(1, 10, 100);
    for (int r = 0; r < 4; r++) {
      x.lent(r, 0, 99999);
    }
    x.fund(9999999);
    due.is("27 estimate(0, 0, 0)", x.estimate(0, 0, 0), 39999996);
    due.is("29 points(0, 0)", x.points(0, 0), 479999952);
    Tapes.rule(x, "most 1", 0, 30);
    for (int y = 0; y < 30; y++) {
      x.fund(9999999);
      x.close();
    }
    due.is("26 THE REST goes on", x.year(29, 8), 299999969L);
    for (int r = 0; r < 4; r++) {
      x.all(r, 9999999);
      x.lent(r, 0, 66667);
      x.lent(r, 1, 33333);
    }
    x.fund(0);
    due.is("26 close()", x.close(), 2);
    // 299999969 pence by POINTS of 6666699 and 3333300 of 9999999 in each REGION
    long all = 299999969L;
    long first = all * 6666699 / 9999999;
    due.is("30 paid(30, 0, 0)", x.paid(30, 0, 0), first + (all * 6666699 % 9999999 > all * 3333300 % 9999999 ? 1 : 0));
    due.is("30 all of it", x.paid(30, 0, 0) + x.paid(30, 1, 0), all);
    x.put(30, 0, 1, 9999999);
    x.put(30, 1, 1, 9999999);
    due.is("34 moved(30, 1)", x.moved(30, 1), 1);
    due.is("36 span(30, 1, 1)", x.span(30, 1, 1) > 20000000 ? 1 : 0, 1);
    due.is("36 span(30, 1, 0)", x.span(30, 1, 0),
        2 * (9999999L * (9999999 - 3162) / (9999999 + 66667)) + 2 * (9999999L * (33333 - 182) / 100000));
  }
}
