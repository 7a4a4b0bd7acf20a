/** Promises 20 to 24, each sentence that names a bound, on both its sides. */
public final class RuleBoundsTest {
  private static final Due due = new Due("RuleBoundsTest");
  private static final Bounds bounds = new Bounds(due);

  public static void main(String[] args) {
    feed();
    feedFull();
    wipe();
    ruleYears();
    ruleFull();
    ruledYears();
    allBytes();
    words();
    numbers();
    endsTooEarly();
    perhaps();
    sixOpen();
    openTillTheyEnd();
    wraps();
    divided();
    oneOrNought();
    unruled();
    greatestNumber();
    saysRefused();
    dead();
    namesOfNone();
    due.end();
  }

  private static void feed() {
    bounds.hold("20 n 0 .. 4", "feed(0x6c617465, 0) = 0; feed(0x6c617465, 4) = 4; feed(0x6c617420, 1) = 5",
        "feed(0x6c617437, 1) = 6; rule(0, 1) = 0; says(5, 0, -1) = 7");
    bounds.hold("20 BELOW: n", Lands.RICH, "feed(0, -1) = BELOW; feed(0, MIN) = BELOW; feed(0, 0) = 5; count(7) = 5");
    bounds.hold("20 NO: n", Lands.RICH, "feed(0, 5) = NO; feed(0, MAX) = NO; feed(0, 4) = 9");
    bounds.hold("20 the lowest bytes, the highest of these first", "feed(0x6d6f7374, 4); feed(0x7f7f2031, 2) = 6",
        "feed(0x7f323334, 3) = 9; rule(0, 1) = 0; says(3, 0, -1) = 1234; feed(0x7f7f7f6d, 1); feed(0x7f7f6f73, 2)",
        "feed(0x7f742039, 3) = 6; rule(0, 1) = 1; says(3, 0, -1) = 9");
    bounds.hold("20 a byte is 255 at most", "tape most 9; feed(-1, 1) = 7; rule(0, 1) = FAULT 6; wipe()",
        "tape most 9; feed(-224, 1) = 7; rule(0, 1) = 0");
  }

  private static void feedFull() {
    bounds.hold("20 THE TAPE (120 at most)", Lands.SMALL, "29 * feed(0, 4); count(7) = 116; feed(0, 3) = 119",
        "feed(0, 2) = FULL; feed(0, 4) = FULL; feed(0, 0) = 119; feed(0, 1) = 120; feed(0, 1) = FULL",
        "feed(0, 4) = FULL; feed(0, 0) = 120; count(7) = 120");
    bounds.hold("20 120 at once full", "29 * feed(0, 4); feed(0, 4) = 120; feed(0, 1) = FULL; wipe() = 120",
        "feed(0, 1) = 1");
    bounds.hold("20 of several the first", "30 * feed(0, 4); feed(0, -1) = BELOW; feed(0, 5) = NO",
        "feed(0, 1) = FULL");
  }

  private static void wipe() {
    bounds.hold("21 how many bytes it had", "wipe() = 0; tape w; wipe() = 1; wipe() = 0; 30 * feed(0, 4)",
        "wipe() = 120; wipe() = 0; count(7) = 0");
    bounds.hold("21 nothing is left of it", "tape most 9; wipe() = 6; rule(0, 1) = FAULT 0; tape most 8",
        "rule(0, 1) = 0; says(3, 0, -1) = 8");
  }

  private static void ruleYears() {
    bounds.hold("22 YEARS (0 .. 100)", "tape who 1; rule(0, 1) = 0; tape who 1; rule(99, 100) = 1; tape who 1",
        "rule(0, 100) = 2");
    bounds.hold("22 NO: from is not ahead of to", Lands.RICH, "wipe(); tape who 1; rule(5, 5) = NO; rule(6, 5) = NO",
        "rule(0, 0) = NO; rule(100, 100) = NO; rule(MAX, MIN) = NO; rule(5, 6) = 2");
    bounds.hold("22 NO: one beyond", Lands.RICH, "wipe(); tape who 1; rule(-1, 5) = NO; rule(0, 101) = NO",
        "rule(-2, -1) = NO; rule(100, 101) = NO; rule(101, 102) = NO; rule(MIN, MAX) = NO; rule(-1, 101) = NO",
        "rule(0, MAX) = NO; rule(MIN, 100) = NO; count(7) = 5; rule(99, 100) = 2");
    bounds.hold("22 NO ahead of a FAULT", "tape who; rule(5, 5) = NO; rule(0, 101) = NO; rule(5, 6) = FAULT 3",
        "tape  1; rule(5, 6) = 0");
  }

  private static void ruleFull() {
    bounds.hold("22 RULES 0 .. 11", Bounds.each(11, "tape part #; rule(0, 1)"), "count(5) = 11; tape part 77",
        "rule(0, 1) = 11; count(5) = 12; says(1, 0, -1) = 77; tape part 78; rule(0, 1) = FULL; count(7) = 7",
        "count(5) = 12; says(1, 0, -1) = 77");
    bounds.hold("22 NO, FULL, then a FAULT", Bounds.each(12, "tape part #; rule(0, 1)"), "tape part",
        "rule(1, 1) = NO; rule(0, 1) = FULL; wipe(); rule(0, 1) = FULL; rule(0, 101) = NO");
    bounds.hold("22 THE TAPE is empty then, and stays behind a FAULT", "tape who 1; rule(0, 1) = 0; count(7) = 0",
        "tape who 1 1; rule(0, 1) = FAULT 6; count(7) = 7");
  }

  private static void ruledYears() {
    bounds.hold("22 for YEARS from one on, ahead of another one", "tape part 7; rule(2, 4); 5 * close()",
        "says(1, 1, -1) = 100; why(1, 1, -1) = NONE; says(1, 2, -1) = 7; why(1, 2, -1) = 0; says(1, 3, -1) = 7",
        "why(1, 3, -1) = 0; says(1, 4, -1) = 100; why(1, 4, -1) = NONE");
    bounds.hold("22 for YEAR 0, for YEAR 40", "tape part 7; rule(0, 1); tape part 8; rule(40, 41); tape least 5",
        "rule(39, 40); 40 * close(); why(1, 0, -1) = 0; why(1, 1, -1) = NONE; why(1, 39, -1) = NONE",
        "why(1, 40, -1) = 1; why(4, 39, -1) = 2; why(4, 40, -1) = NONE");
  }

  /** A byte behind "most ": a NUMBER, a sign that waits for more, a blank, or one that can't stand there. */
  private static void allBytes() {
    for (int b = 0; b < 256; b++) {
      boolean digit = b >= '0' && b <= '9';
      boolean waits = b == '-' || b == '(' || b == ' ';
      String one = digit ? "rule(0, 1) = 0; says(3, 0, -1) = " + (b - '0') : "rule(0, 1) = FAULT " + (waits ? 6 : 5);
      bounds.hold("22 the byte " + b + " where a ONE is due", "tape most; feed(32, 1)", "feed(" + b + ", 1)", one);
      String two;
      switch (b) {
        case '+' -> two = "rule(0, 1) = 0; says(3, 0, -1) = 10";
        case '-' -> two = "rule(0, 1) = 0; says(3, 0, -1) = 6";
        case '*' -> two = "rule(0, 1) = 0; says(3, 0, -1) = 16";
        case '/' -> two = "rule(0, 1) = 0; says(3, 0, -1) = 4";
        case '%', '=', '<' -> two = "rule(0, 1) = 0; says(3, 0, -1) = 0";
        case '>' -> two = "rule(0, 1) = 0; says(3, 0, -1) = 1";
        case ' ' -> two = "rule(0, 1) = FAULT 7";
        default -> two = digit ? "rule(0, 1) = 0; says(3, 0, -1) = " + (802 + 10 * (b - '0')) : "rule(0, 1) = FAULT 6";
      }
      bounds.hold("22 the byte " + b + " between two NUMBERS", "tape most 8", "feed(" + b + ", 1); tape 2", two);
    }
  }

  private static void faultOf(String text, int place) {
    bounds.hold("22 FAULT of \"" + text + "\"", "tape " + text, "rule(0, 1) = FAULT " + place);
  }

  private static void taken(String text) {
    bounds.hold("22 no FAULT of \"" + text + "\"", "tape " + text, "rule(0, 1) = 0; count(7) = 0");
  }

  /** The same WORD with one letter that is another one, at each place. */
  private static void otherLetters(String before, String word, String behind) {
    for (int i = 0; i < word.length(); i++) {
      StringBuilder other = new StringBuilder(word);
      other.setCharAt(i, (char) (word.charAt(i) == 'z' ? 'y' : word.charAt(i) + 1));
      faultOf(before + other + behind, before.length());
    }
  }

  private static void words() {
    for (String key : PlainRules.KEYS) {
      taken(key + " 1");
      otherLetters("", key, " 1");
      faultOf(key + "e 1", 0);
      faultOf(key.substring(1) + " 1", 0);
      faultOf(key.substring(0, key.length() - 1) + " 1", 0);
      faultOf("who " + key, 4);
      faultOf("who 1 + " + key, 8);
    }
    for (String name : PlainRules.NAMES) {
      taken("who " + name);
      otherLetters("who ", name, "");
      faultOf("who " + name + "z", 4);
      faultOf("who a" + name, 4);
      faultOf("who " + name.substring(0, name.length() - 1), 4);
      faultOf(name + " 1", 0);
    }
    for (String other : new String[] {"if", "or", "and"}) {
      taken("who 1 " + other + " 1");
      otherLetters("who 1 ", other, " 1");
      faultOf("who 1 " + other + "f 1", 6);
      faultOf("who " + other + " 1", 4);
      faultOf(other + " 1", 0);
    }
    taken("who not 1");
    otherLetters("who ", "not", " 1");
    faultOf("who nota 1", 4);
    faultOf("who no 1", 4);
    faultOf("not 1", 0);
    // the letters a and z go on with a WORD, the bytes next to them begin none
    faultOf("whoa 1", 0);
    faultOf("whoz 1", 0);
    faultOf("who` 1", 3);
    faultOf("who{ 1", 3);
    // TOKENS as long as can be
    taken("who1if1or1and1");
    faultOf("whoif1", 0);
    faultOf("who 1 if not1orand", 13);
    faultOf("who notyear", 4);
    taken("who not year");
  }

  private static void numbers() {
    bounds.hold("22 NUMBERS (digits, 7 at most)", "tape most 9999999; rule(0, 1) = 0; says(3, 0, -1) = 9999999",
        "tape most 10000000; rule(0, 1) = FAULT 5; wipe(); tape most 0000000; rule(0, 1) = 1; says(3, 0, -1) = 0",
        "tape most 00000000; rule(0, 1) = FAULT 5");
    bounds.hold("22 a NUMBER that is too long, further on", "tape most 1+1234567; rule(0, 1) = 0",
        "tape most 1+12345678; rule(0, 1) = FAULT 7; wipe(); tape most 1 if 12345678; rule(0, 1) = FAULT 10; wipe()",
        "tape most 1 12345678; rule(0, 1) = FAULT 7");
    bounds.hold("22 a NUMBER of one digit", "tape most 0; rule(0, 1) = 0; says(3, 0, -1) = 0; tape most 9",
        "rule(0, 1) = 1; says(3, 0, -1) = 9");
    taken("who 1234567/1");
    faultOf("who 1234567 1", 12);
  }

  private static void endsTooEarly() {
    faultOf("who", 3);
    faultOf("who ", 4);
    faultOf("who   ", 6);
    taken("who 1");
    taken("who 1   ");
    taken("   who 1");
    faultOf("who (1", 6);
    taken("who (1)");
    faultOf("who 1 if", 8);
    faultOf("who 1 if ", 9);
    taken("who 1 if 1");
    bounds.hold("22 an empty TAPE, beside one of blanks", "rule(0, 1) = FAULT 0; feed(32, 1); rule(0, 1) = FAULT 1",
        "feed(0x20202020, 4); rule(0, 1) = FAULT 5");
    String most = "tape most1" + "+1".repeat(57);
    bounds.hold("22 THE TAPE of 120 bytes", most, "count(7) = 119; feed(32, 1) = 120; rule(0, 1) = 0",
        "says(3, 0, -1) = 58; count(7) = 0");
    bounds.hold("22 THE TAPE of 120 bytes, the last of them a digit", most, "feed(48, 1) = 120; rule(0, 1) = 0",
        "says(3, 0, -1) = 67");
    bounds.hold("22 THE TAPE of 120 bytes, too early at its end", most, "feed(43, 1) = 120; rule(0, 1) = FAULT 120",
        "count(7) = 120");
    bounds.hold("22 THE TAPE of 120 bytes, a FAULT in the last", most, "feed(41, 1) = 120; rule(0, 1) = FAULT 119");
    bounds.hold("22 THE TAPE of 120 bytes, a FAULT in the first", "30 * feed(0, 4); rule(0, 1) = FAULT 0");
    bounds.hold("22 THE TAPE of 120 blanks", "30 * feed(0x20202020, 4); rule(0, 1) = FAULT 120");
  }

  /** What may stand once, many times, or not at all. */
  private static void perhaps() {
    taken("who 1=1");
    faultOf("who 1=1=1", 7);
    taken("who (1=1)=1");
    faultOf("who 1<1>1", 7);
    taken("who 1=1 and 1=1");
    faultOf("who 1=1 and 1=1=1", 15);
    faultOf("who = 1", 4);
    faultOf("who 1=", 6);
    faultOf("who 1==1", 6);
    taken("who 1 if 1");
    faultOf("who 1 if 1 if 1", 11);
    faultOf("who (1 if 1)", 7);
    taken("who 1+1-1+1");
    faultOf("who 1++1", 6);
    faultOf("who +1", 4);
    taken("who 1--1");
    taken("who 1*2/3%4");
    faultOf("who 1*/2", 6);
    faultOf("who *1", 4);
    taken("who 1 or 1 or 1");
    faultOf("who 1 or or 1", 9);
    taken("who 1 and 1 and 1");
    faultOf("who 1 and and 1", 10);
    taken("who not not 1");
    faultOf("who not", 7);
    faultOf("who 1 not 1", 6);
    faultOf("who 1=not 1", 6);
    taken("who 1=(not 1)");
    faultOf("who 1+not 1", 6);
    faultOf("who -not 1", 5);
    faultOf("who ()", 5);
    faultOf("who 1)", 5);
    faultOf("who (1))", 7);
    faultOf("who 1 1", 6);
    faultOf("who 1(1)", 5);
    faultOf("who who 1", 4);
    faultOf("who 1 $", 6);
    faultOf("$ who 1", 0);
    faultOf("who 1 1 $", 6);
  }

  private static void sixOpen() {
    taken("who ((((((1))))))");
    faultOf("who (((((((1)))))))", 10);
    taken("who ------1");
    faultOf("who -------1", 10);
    taken("who not not not not not not 1");
    faultOf("who not not not not not not not 1", 28);
    taken("who not(-(not(1)))+-1");
    taken("who not(-(-(1)))");
    faultOf("who not(-(-(-1)))", 12);
    faultOf("who not(-(-((1))))", 12);
    faultOf("who not(-(-(not 1)))", 12);
    faultOf("who ((((((not 1))))))", 10);
    taken("who (((((not 1)))))");
    faultOf("who ((((((-1))))))", 10);
    taken("who (((((-1)))))");
    taken("who 1 if ((((((1))))))");
    faultOf("who 1 if (((((((1)))))))", 15);
    taken("who 1 if not not not not not not 1");
    faultOf("who 1 if -------1", 15);
  }

  private static void openTillTheyEnd() {
    // a ( till its )
    taken("who ((((((1))))))+((((((1))))))");
    taken("who (((1)))*((((((1))))))");
    faultOf("who ((1)*((((((1))))))))", 14);
    taken("who ((1)*(((((1))))))");
    // a not till its NOT ends
    taken("who not 1 and ((((((1))))))");
    taken("who not 1 or ((((((1))))))");
    faultOf("who not ((((((1))))))", 13);
    taken("who not (((((1)))))");
    faultOf("who not 1=((((((1))))))", 15);
    taken("who not 1=(((((1)))))");
    faultOf("who not 1+((((((1))))))", 15);
    taken("who not not 1 and ------1");
    // a - till its ONE ends
    taken("who -1*((((((1))))))");
    taken("who -1+------1");
    faultOf("who -((((((1))))))", 10);
    taken("who -(((((1)))))");
    taken("who -(((((1)))))-((((((1))))))");
    // a - between two TERMS is none
    taken("who ((((((1-1))))))");
    faultOf("who ((((((1--1))))))", 12);
    taken("who 1-1-1-1-1-1-1-1-1-1");
    // behind an if all has ended
    taken("who not not not not not not 1 if ------1");
    taken("who ------1 if ((((((1))))))");
  }

  private static void says(String text, int worth) {
    bounds.hold("23 what \"" + text + "\" says", "tape most " + text, "rule(0, 100) = 0; says(3, 0, -1) = " + worth);
  }

  private static void wraps() {
    says("9999999*214+7483861", Integer.MAX_VALUE);
    says("9999999*214+7483862", Integer.MIN_VALUE);
    says("-9999999*214-7483862", Integer.MIN_VALUE);
    says("-9999999*214-7483863", Integer.MAX_VALUE);
    says("9999999*214", 2139999786);
    says("9999999*215", -2144967511);
    says("65536*32767", 2147418112);
    says("65536*32768", Integer.MIN_VALUE);
    says("65536*65535", -65536);
    says("65536*65536", 0);
    says("-(65536*32768)", Integer.MIN_VALUE);
    says("-(65536*32768+1)", Integer.MAX_VALUE);
    says("65536*32768/-1", Integer.MIN_VALUE);
    says("(65536*32768+1)/-1", Integer.MAX_VALUE);
    says("65536*32768%-1", 0);
    says("65536*32768<65536*32768-1", 1);
    says("65536*32768>0", 0);
    says("65536*65536 or 0", 0);
    says("65536*65535 or 0", 1);
  }

  private static void divided() {
    says("7/0", 0);
    says("7/1", 7);
    says("7/-1", -7);
    says("0/0", 0);
    says("7%0", 0);
    says("7%1", 0);
    says("7%2", 1);
    says("7%-2", 1);
    says("-7%2", -1);
    says("-7/2", -3);
    says("6/7", 0);
    says("7/7", 1);
    says("7/(2-2)+5", 5);
    says("1 or 1/0", 1);
    says("0 and 1/0", 0);
    says("65536*32768/0", 0);
    says("65536*32768%0", 0);
  }

  private static void oneOrNought() {
    says("0 or 0", 0);
    says("0 or 2", 1);
    says("-1 or 0", 1);
    says("2 or 3", 1);
    says("2 and 3", 1);
    says("2 and 0", 0);
    says("0 and 2", 0);
    says("0 and 0", 0);
    says("not 0", 1);
    says("not 1", 0);
    says("not -1", 0);
    says("not 2", 0);
    says("not not 2", 1);
    says("2=2", 1);
    says("2=3", 0);
    says("2<2", 0);
    says("1<2", 1);
    says("2<1", 0);
    says("2>2", 0);
    says("2>1", 1);
    says("1>2", 0);
    says("-1<0", 1);
    says("2", 2);
    says("1=1 and 2", 1);
    says("not 2=3", 1);
    says("not 1+1", 0);
  }

  private static void unruled() {
    bounds.hold("23 without one: who 1, part 100, abroad 100, most 0, least 0, late 0", Lands.SMALL,
        "says(0, 0, -1) = 1; says(1, 0, -1) = 100; says(2, 0, -1) = 100; says(3, 0, -1) = 0; says(4, 0, -1) = 0",
        "says(5, 0, -1) = 0; says(0, 0, 0) = 1; says(1, 0, 0) = 100; says(2, 0, 0) = 100; says(3, 0, 0) = 0",
        "says(4, 0, 0) = 0; says(5, 0, 0) = 0");
    String[] keys = {"who", "part", "abroad", "most", "least", "late"};
    for (int key = 0; key < keys.length; key++) {
      bounds.hold("23 with one of " + keys[key], "tape " + keys[key] + " 0-77; rule(0, 1)",
          "says(" + key + ", 0, -1) = -77; why(" + key + ", 0, -1) = 0; close(); why(" + key + ", 1, -1) = NONE",
          "says(" + (key + 1) % 6 + ", 0, -1) = " + new int[] {100, 100, 0, 0, 0, 1}[key]);
    }
    bounds.hold("24 NONE: none", Lands.SMALL, Bounds.each(6, "why(#, 0, -1) = NONE"),
        Bounds.each(6, "why(#, 0, 0) = NONE"));
  }

  private static void greatestNumber() {
    bounds.hold("24 the one of the greatest number", "tape most 5; rule(0, 9); why(3, 0, -1) = 0; tape most 6",
        "rule(0, 9); why(3, 0, -1) = 1; tape least 7; rule(0, 9); why(3, 0, -1) = 1; why(4, 0, -1) = 2; tape most 8",
        "rule(1, 9); why(3, 0, -1) = 1; close(); why(3, 1, -1) = 3; why(3, 0, -1) = 1");
    bounds.hold("24 whose if isn't 0 (or that have none)", "tape most 5; rule(0, 9); tape most 6 if 0; rule(0, 9)",
        "why(3, 0, -1) = 0; says(3, 0, -1) = 5; tape most 7 if 1; rule(0, 9); why(3, 0, -1) = 2; tape most 8 if 0-1",
        "rule(0, 9); why(3, 0, -1) = 3; tape most 9 if 65536*65536; rule(0, 9); why(3, 0, -1) = 3");
    bounds.hold("24 none whose if isn't 0", "tape most 5 if year; rule(0, 9); why(3, 0, -1) = NONE",
        "says(3, 0, -1) = 0; close(); why(3, 1, -1) = 0; says(3, 1, -1) = 5");
    bounds.hold("24 the first RULE and the last", Bounds.each(12, "tape least # if year<12-#; rule(0, 40)"),
        "11 * close(); why(4, 0, -1) = 11; why(4, 1, -1) = 10; why(4, 11, -1) = 0; says(4, 0, -1) = 11",
        "says(4, 11, -1) = 0; close(); why(4, 12, -1) = NONE");
  }

  private static void saysRefused() {
    bounds.hold("23 BEYOND: KEY (0 .. 5)", Lands.RICH, "says(0, 0, 0) = 1; says(5, 0, 0) = 1",
        "says(-1, 0, 0) = 0 BEYOND; says(6, 0, 0) = 0 BEYOND; says(MIN, 0, 0) = 0 BEYOND",
        "says(MAX, 0, 0) = 0 BEYOND");
    bounds.hold("23 BEYOND: a YEAR (0 .. the open one)", Lands.RICH, "says(3, 0, 0) = 900; says(3, 1, 0) = 900",
        "says(3, 2, 0) = 0 BEYOND; says(3, -1, 0) = 0 BEYOND; says(3, MIN, 0) = 0 BEYOND",
        "says(3, MAX, 0) = 0 BEYOND; close(); says(3, 2, 0) = 900");
    bounds.hold("23 BEYOND: a SHARE (-1: of none)", Lands.RICH, "says(1, 0, -1) = 100; says(1, 0, 0) = 100",
        "says(1, 0, 3) = 100; says(1, 0, 4) = 0 BEYOND; says(1, 0, -2) = 0 BEYOND; says(3, 0, 4) = 0 BEYOND",
        "says(1, 0, MIN) = 0 BEYOND; says(1, 0, MAX) = 0 BEYOND");
    bounds.hold("24 BEYOND: KEY (0 .. 5)", Lands.RICH, "why(0, 0, 0) = NONE; why(5, 0, 0) = 1",
        "why(-1, 0, 0) = BEYOND; why(6, 0, 0) = BEYOND; why(MIN, 0, 0) = BEYOND; why(MAX, 0, 0) = BEYOND");
    bounds.hold("24 BEYOND: a YEAR (0 .. the open one)", Lands.RICH, "why(3, 0, 0) = 0; why(3, 1, 0) = 0",
        "why(3, 2, 0) = BEYOND; why(3, -1, 0) = BEYOND; why(3, MIN, 0) = BEYOND; why(3, MAX, 0) = BEYOND; close()",
        "why(3, 2, 0) = 0");
    bounds.hold("24 BEYOND: a SHARE (-1: of none)", Lands.RICH, "why(1, 0, -1) = NONE; why(1, 0, 0) = NONE",
        "why(1, 0, 3) = NONE; why(1, 0, 4) = BEYOND; why(1, 0, -2) = BEYOND; why(3, 0, 4) = BEYOND",
        "why(1, 0, MIN) = BEYOND; why(1, 0, MAX) = BEYOND");
    bounds.hold("23 no SHARE is there", "says(0, 0, -1) = 1; says(0, 0, 0) = 0 BEYOND; why(0, 0, -1) = NONE",
        "why(0, 0, 0) = BEYOND");
  }

  private static void dead() {
    bounds.hold("23 dead: YEARS since it DIED (0: it lives, or DIED in that YEAR or later)", Lands.SMALL,
        "tape who dead; rule(0, 100); 3 * close(); says(0, 0, 0) = 0; says(0, 3, 0) = 0; died(0, 1)",
        "says(0, 0, 0) = 0; says(0, 1, 0) = 0; says(0, 2, 0) = 1; says(0, 3, 0) = 2; died(0, 3); says(0, 2, 0) = 0",
        "says(0, 3, 0) = 0; died(0, -50); says(0, 0, 0) = 50; says(0, 3, 0) = 53");
    bounds.hold("23 dead as long as can be", "edition(0, 1, 0); person(1, 0, -100); share(0, 0, 9); tape who dead",
        "rule(0, 100); died(0, -99); 40 * close(); says(0, 0, 0) = 99; says(0, 40, 0) = 139");
  }

  private static void namesOfNone() {
    String land = "library(1, 10); draw(1); edition(4, 9, -7); person(1, 3, -50); close();"
        + "share(0, 3, 40); lent(0, 0, 1); all(1, 77); died(0, 0);";
    int[] ofShare = {3, 4, 3, 1, 1, 1, 40, -7, 9, 77};
    String[] keys = {"who", "part", "abroad", "most", "least", "late"};
    for (int i = 0; i < ofShare.length; i++) {
      String name = PlainRules.NAMES.get(i);
      int ofNone = name.equals("year") ? 1 : 0;
      for (int key = 0; key < keys.length; key++) {
        int want = key <= 2 ? ofShare[i] : ofNone;
        bounds.hold("23 " + name + " of a SHARE, and of none: " + keys[key], land,
            "tape " + keys[key] + " " + name + "; rule(0, 100)",
            "says(" + key + ", 1, 0) = " + want + "; says(" + key + ", 1, -1) = " + ofNone);
      }
    }
  }
}
