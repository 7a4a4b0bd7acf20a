/** Promises 20 to 24: the tape, rules read from it, and what they say. */
public final class RulesTest {
  private static final int BEYOND = LoanPence.BEYOND;
  private static final int BELOW = LoanPence.BELOW;
  private static final int NO = LoanPence.NO;
  private static final int FULL = LoanPence.FULL;
  private static final Due due = new Due("RulesTest");

  public static void main(String[] args) {
    feed();
    wipe();
    rule();
    ruleFull();
    faults();
    depth();
    stands();
    worth();
    wraps();
    unruled();
    greatestRule();
    names();
    saysRefused();
    due.end();
  }

  private static void feed() {
    LoanPence x = new LoanPence();
    due.refused(x, "20 feed(0, -1)", 0, x.feed(0, -1), BELOW);
    due.refused(x, "20 feed(0, 5)", 0, x.feed(0, 5), NO);
    due.is("20 feed(0, 0)", x.feed(0, 0), 0);
    // "most 12" out of 'm', "os", "t 1", then the lowest of "zzz2"
    due.is("20 feed('m', 1)", x.feed('m', 1), 1);
    due.is("20 feed(.., 2)", x.feed(0x7a7a6f73, 2), 3);
    due.is("20 feed(.., 3)", x.feed(0xff742031, 3), 6);
    due.is("20 feed(.., 1)", x.feed(0x7a7a7a32, 1), 7);
    due.is("20 feed(\"2345\", 4)", x.feed(0x33343536, 4), 11);
    due.is("20 rule(0, 1)", x.rule(0, 1), 0);
    due.is("20 says(3, 0, -1)", x.says(3, 0, -1), 123456);
    for (int i = 4; i <= 116; i += 4) {
      due.is("20 feed, so many", x.feed(-1, 4), i);
    }
    due.is("20 feed(0, 3)", x.feed(0, 3), 119);
    due.refused(x, "20 feed(0, 2) with 119", 0, x.feed(0, 2), FULL);
    due.refused(x, "20 feed(0, 5) with 119", 1, x.feed(0, 5), NO);
    due.is("20 feed(0, 1) with 119", x.feed(0, 1), 120);
    due.refused(x, "20 feed(0, 1) with 120", 1, x.feed(0, 1), FULL);
    due.is("20 feed(0, 0) with 120", x.feed(0, 0), 120);
    due.is("20 count(7)", x.count(7), 120);
  }

  private static void wipe() {
    LoanPence x = new LoanPence();
    Tapes.feed(x, "who");
    due.is("21 wipe()", x.wipe(), 3);
    due.is("21 wipe()", x.wipe(), 0);
    due.is("21 count(7)", x.count(7), 0);
    due.is("21 an empty tape ends too early", x.rule(0, 1), -10);
  }

  private static void rule() {
    LoanPence x = new LoanPence();
    Tapes.feed(x, "who 1");
    int[][] wrong = {{5, 5}, {6, 5}, {-1, 5}, {0, 101}, {100, 100}, {-5, -3}, {101, 102}};
    for (int i = 0; i < wrong.length; i++) {
      due.refused(x, "22 rule, wrong " + i, i, x.rule(wrong[i][0], wrong[i][1]), NO);
    }
    due.is("22 the tape stays", x.count(7), 5);
    due.is("22 rule(99, 100)", x.rule(99, 100), 0);
    due.is("22 the tape is empty then", x.count(7), 0);
    due.is("22 rule(0, 100) of an empty tape", x.rule(0, 100), -10);
    due.is("22 rule(0, 100)", Tapes.rule(x, "late 3", 0, 100), 1);
    due.is("22 a FAULT", Tapes.rule(x, "late 3 3", 0, 100), -17);
    due.is("22 the tape stays", x.count(7), 8);
    due.is("22 a FAULT is none of status()'s", x.status(NO), wrong.length);
    due.is("22 count(5)", x.count(5), 2);
  }

  private static void ruleFull() {
    LoanPence x = new LoanPence();
    for (int i = 0; i < 12; i++) {
      due.is("22 rule " + i, Tapes.rule(x, "part 5", 0, 1), i);
    }
    Tapes.feed(x, "part");
    due.refused(x, "22 rule(0, 1) with 12", 0, x.rule(0, 1), FULL);
    due.refused(x, "22 rule(1, 1) with 12", 0, x.rule(1, 1), NO);
    due.is("22 count(7)", x.count(7), 4);
  }

  /** Each text with its FAULT. */
  private static void faults() {
    String[] texts = {"", "   ", "x", "role 1", "if 1", "1", "(who 1)", " who", "who  ", "whom 1", "who 1 2",
      "who 1)", "who (1", "who (1 ", "who ()", "who 1 +", "who 1 + + 1", "who 1 * * 1", "who * 1", "who 1 = = 1",
      "who 1 = 2 = 3", "who 1 < 2 > 3", "who 1 = not 2", "who 1 + not 2", "who - not 2", "who 1 or", "who or 1",
      "who 1 and or 1", "who not", "who not if 1", "who 1 if", "who 1 if 1 if 1", "who (1 if 1)", "who if 1",
      "who 1 if who", "who part", "who 12345678", "who 1 12345678", "who 1 $", "who $ )", "who 1 ) $", "who Role",
      "who 1\t", "who 1 and 2 )", "who rol", "who roles", "who 1 if 1 or", "who (1))", "who 1 ( 2", "who 1 not 2",
      "who (1 = 2 = 3)", "who 1 = 2 and 3 = 4 = 5", "who year year", "who 00000000", "most 1 , 2", "whopart1"};
    int[] places = {0, 3, 0, 0, 0, 0, 0, 4, 5, 0, 6,
      5, 6, 7, 5, 7, 8, 8, 4, 8,
      10, 10, 8, 8, 6, 8, 4,
      10, 7, 8, 8, 11, 7, 4,
      9, 4, 4, 6, 6, 4, 6, 4,
      5, 12, 4, 4, 13, 7, 6, 6,
      11, 20, 9, 4, 7, 0};
    due.is("22 texts and places", texts.length, places.length);
    for (int i = 0; i < texts.length && i < places.length; i++) {
      due.is("22 rule of \"" + texts[i] + "\"", Tapes.rule(new LoanPence(), texts[i], 0, 1), -10 - places[i]);
    }
    LoanPence x = new LoanPence();
    due.is("22 bytes above 127 begin none", feedByte(x, "who 1 ", 0xe9), -16);
    due.is("22 nor does 0", feedByte(x, "who 1 ", 0), -16);
    due.is("22 nor does 160", feedByte(x, "who 1", 160), -15);
    due.is("22 count(5)", x.count(5), 0);
  }

  private static int feedByte(LoanPence x, String text, int last) {
    x.wipe();
    Tapes.feed(x, text);
    x.feed(last, 1);
    return x.rule(0, 1);
  }

  /** Six of ( , not and - may be open. */
  private static void depth() {
    LoanPence x = new LoanPence();
    due.is("22 six (", Tapes.rule(x, "who ((((((7))))))", 0, 1), 0);
    due.is("22 seven (", Tapes.rule(x, "who (((((((7)))))))", 0, 1), -20);
    due.is("22 six -", Tapes.rule(x, "who ------7", 0, 1), 1);
    due.is("22 seven -", Tapes.rule(x, "who -------7", 0, 1), -20);
    due.is("22 six not", Tapes.rule(x, "who not not not not not not 7", 0, 1), 2);
    due.is("22 seven not", Tapes.rule(x, "who not not not not not not not 7", 0, 1), -38);
    due.is("22 mixed", Tapes.rule(x, "who not(-(not(7)))-(-(7))", 0, 1), 3);
    due.is("22 a not is open till its NOT ends", Tapes.rule(x, "who not(1)=(((((2)))))", 0, 1), 4);
    due.is("22 a not is open till its NOT ends", Tapes.rule(x, "who not(1)=((((((2))))))", 0, 1), -10 - 16);
    due.is("22 a not is no longer open behind and", Tapes.rule(x, "who not(1)and((((((2))))))", 0, 1), 5);
    due.is("22 a - is open till its ONE ends", Tapes.rule(x, "who -(((((2)))))*((((((2))))))", 0, 1), 6);
    due.is("22 a - and six (", Tapes.rule(x, "who -((((((2))))))", 0, 1), -20);
    due.is("22 a - of two is none", Tapes.rule(x, "who ((((((1-1-1))))))", 0, 1), 7);
    due.is("22 a - ahead of a ONE is one", Tapes.rule(x, "who ((((((1--1))))))", 0, 1), -22);
    due.is("22 if begins anew", Tapes.rule(x, "who not not not 1 if ------1", 0, 1), 8);
    due.is("22 ( behind ) ", Tapes.rule(x, "who (((1)))+((((((1))))))", 0, 1), 9);
  }

  private static void stands() {
    LoanPence x = new LoanPence();
    due.is("22 no blanks", Tapes.rule(x, "most2if1", 0, 1), 0);
    due.is("22 many blanks", Tapes.rule(x, "   most  3   if  1  ", 0, 1), 1);
    due.is("22 seven digits", Tapes.rule(x, "most 9999999", 0, 1), 2);
    due.is("22 says(3, 0, -1)", x.says(3, 0, -1), 9999999);
    due.is("22 seven digits, noughts ahead", Tapes.rule(x, "most 0000012", 0, 1), 3);
    due.is("22 says(3, 0, -1)", x.says(3, 0, -1), 12);
    StringBuilder text = new StringBuilder("most1");
    while (text.length() < 119) {
      text.append("+1");
    }
    due.is("22 a long one", Tapes.rule(x, text.toString(), 0, 1), 4);
    due.is("22 says(3, 0, -1)", x.says(3, 0, -1), 58);
    due.is("22 120 bytes", Tapes.rule(x, text + " ", 0, 1), 5);
    due.is("22 120 bytes that end too early", Tapes.rule(x, text + "+", 0, 1), -130);
  }

  private static int say(String text) {
    LoanPence x = new LoanPence();
    x.close();
    x.close();
    x.close();
    int number = Tapes.rule(x, "most " + text, 0, 100);
    due.is("23 rule of \"" + text + "\"", number, 0);
    return x.says(3, 3, -1);
  }

  private static void worth() {
    String[] texts = {"1+2*3", "(1+2)*3", "10-3-2", "100/7/2", "100%7*3", "-5/2", "-5%3", "7/0", "7%0", "0/0",
      "1=1", "1=2", "2>1", "2<1", "1<1", "not 0", "not 5", "not not 5", "5 and 6", "5 and 0", "0 or 7", "0 or 0",
      "0 or 1 and 0", "1 or 1 and 0", "not 1 or 1", "not 1=2", "not (1) = 0", "year", "year*2+1", "role", "loans",
      "parts+printed+title+kind+land+dead+claim", "-year", "--year", "3 - -2", "1<2 and 2<3", "2+1=3", "7 or 0 and 0",
      "(7)", "-(2+3)", "2*-3", "1-2*3+4", "5=5 and 3>2 or 0", "-7/2*2", "8-3%2", "not -1"};
    int[] worth = {7, 9, 5, 7, 6, -2, -2, 0, 0, 0,
      1, 0, 1, 0, 0, 1, 0, 1, 1, 0, 1, 0,
      0, 1, 1, 1, 1, 3, 7, 0, 0,
      0, -3, 3, 5, 1, 1, 1,
      7, -5, -6, -1, 1, -6, 7, 0};
    due.is("23 texts and worth", texts.length, worth.length);
    for (int i = 0; i < texts.length && i < worth.length; i++) {
      due.is("23 what \"" + texts[i] + "\" says", say(texts[i]), worth[i]);
    }
  }

  private static void wraps() {
    due.is("23 9999999*9999999", say("9999999*9999999"), 9999999 * 9999999);
    due.is("23 65536*65536", say("65536*65536"), 0);
    due.is("23 the least int", say("65536*32768"), Integer.MIN_VALUE);
    due.is("23 less than the least", say("65536*32768-1"), Integer.MAX_VALUE);
    due.is("23 the least by -1", say("65536*32768/-1"), Integer.MIN_VALUE);
    due.is("23 the rest of the least by -1", say("65536*32768%-1"), 0);
    due.is("23 less the least", say("-(65536*32768)"), Integer.MIN_VALUE);
    due.is("23 the least is below", say("65536*32768<0"), 1);
  }

  private static void unruled() {
    LoanPence x = new LoanPence();
    int[] want = {1, 100, 100, 0, 0, 0};
    for (int key = 0; key < 6; key++) {
      due.is("23 says(" + key + ", 0, -1)", x.says(key, 0, -1), want[key]);
      due.is("24 why(" + key + ", 0, -1)", x.why(key, 0, -1), LoanPence.NONE);
    }
    String[] texts = {"who 11", "part 12", "abroad 13", "most 14", "least 15", "late 16"};
    for (int key = 0; key < 6; key++) {
      due.is("22 " + texts[key], Tapes.rule(x, texts[key], 0, 1), key);
    }
    for (int key = 0; key < 6; key++) {
      due.is("23 says(" + key + ", 0, -1)", x.says(key, 0, -1), 11 + key);
      due.is("24 why(" + key + ", 0, -1)", x.why(key, 0, -1), key);
    }
  }

  private static void greatestRule() {
    LoanPence x = new LoanPence();
    for (int i = 0; i < 4; i++) {
      x.close();
    }
    Tapes.rule(x, "most 10", 0, 3);
    Tapes.rule(x, "most 11", 1, 4);
    Tapes.rule(x, "most 12 if year = 2 or year = 4", 0, 100);
    Tapes.rule(x, "least 13", 0, 100);
    Tapes.rule(x, "most 14", 5, 100);
    Tapes.rule(x, "most 15 if 0", 0, 100);
    int[] why = {0, 1, 2, 1, 2};
    for (int year = 0; year <= 4; year++) {
      due.is("24 why(3, " + year + ", -1)", x.why(3, year, -1), why[year]);
      due.is("23 says(3, " + year + ", -1)", x.says(3, year, -1), 10 + why[year]);
    }
    due.is("24 why(4, 0, -1)", x.why(4, 0, -1), 3);
    Tapes.rule(x, "most 16 if -1", 0, 1);
    due.is("24 what is not 0 is true", x.why(3, 0, -1), 6);
  }

  private static LoanPence twoShares() {
    LoanPence x = new LoanPence();
    x.library(2, 10);
    x.draw(1);
    x.edition(0, 7, 0);
    x.edition(4, 8, -3);
    x.person(1, 0, -40);
    x.person(2, 3, -40);
    x.close();
    x.share(0, 1, 60);
    x.share(1, 12, 45);
    x.died(1, 0);
    x.lent(0, 0, 1);
    x.lent(0, 1, 3);
    x.all(2, 1000);
    x.close();
    x.close();
    return x;
  }

  private static void names() {
    String[] names = {"role", "kind", "land", "year", "dead", "claim", "parts", "printed", "title", "loans"};
    int[] ofOne = {2, 4, 3, 1, 1, 1, 45, -3, 8, 750};
    int[] ofNought = {1, 0, 0, 1, 0, 1, 60, 0, 7, 250};
    for (int i = 0; i < names.length; i++) {
      LoanPence x = twoShares();
      for (int key = 0; key < 6; key++) {
        Tapes.rule(x, PlainRules.KEYS.get(key) + " " + names[i], 0, 100);
        boolean ofShare = key <= 2;
        boolean ofYear = names[i].equals("year");
        due.is("23 " + names[i] + " of SHARE 1 by key " + key, x.says(key, 1, 1),
            ofShare || ofYear ? ofOne[i] : 0);
        due.is("23 " + names[i] + " of SHARE 0 by key " + key, x.says(key, 1, 0),
            ofShare || ofYear ? ofNought[i] : 0);
        due.is("23 " + names[i] + " of none by key " + key, x.says(key, 1, -1), ofYear ? 1 : 0);
      }
    }
    LoanPence x = twoShares();
    Tapes.rule(x, "who dead", 0, 100);
    due.is("23 dead in the YEAR in which it DIED", x.says(0, 0, 1), 0);
    due.is("23 dead two YEARS later", x.says(0, 2, 1), 2);
    x.died(1, -40);
    due.is("23 dead long since", x.says(0, 2, 1), 42);
    Tapes.rule(x, "part loans", 0, 100);
    due.is("23 loans of another YEAR", x.says(1, 2, 1), 0);
    x.put(1, 0, 0, 7);
    due.is("23 loans as KNOWN now", x.says(1, 1, 1), 300);
    Tapes.rule(x, "abroad 5 if land = 3 and loans > 299", 0, 100);
    due.is("24 why(2, 1, 1)", x.why(2, 1, 1), 2);
    due.is("24 why(2, 1, 0)", x.why(2, 1, 0), LoanPence.NONE);
    due.is("24 why(2, 1, -1)", x.why(2, 1, -1), LoanPence.NONE);
    due.is("24 why(2, 0, 1)", x.why(2, 0, 1), LoanPence.NONE);
  }

  private static void saysRefused() {
    LoanPence x = twoShares();
    int[][] wrong = {{-1, 0, 0}, {6, 0, 0}, {0, -1, 0}, {0, 4, 0}, {0, 0, 2}, {0, 0, -2}, {3, 0, 2}};
    for (int i = 0; i < wrong.length; i++) {
      int[] w = wrong[i];
      due.refusedAsZero(x, "23 says, wrong " + i, 2 * i, x.says(w[0], w[1], w[2]), BEYOND);
      due.refused(x, "24 why, wrong " + i, 2 * i + 1, x.why(w[0], w[1], w[2]), BEYOND);
    }
    due.is("23 says(1, 3, 1)", x.says(1, 3, 1), 100);
  }
}
