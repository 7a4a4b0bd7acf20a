/** Lands in which the rows of Bounds are called. */
final class Lands {
  /** Something of everything: a closed YEAR put right, an image that has been left behind, a tape, a row. */
  static final String RICH = "library(0, 10); library(1, 20); library(1, 5); draw(3);"
      + "person(7, 0, -40); person(8, 1, -100); person(7, 0, -100);"
      + "edition(0, 5, -3); edition(1, 5, 0); edition(3, 6, 0);"
      + "share(0, 0, 60); share(0, 11, 40); share(1, 11, 50); share(2, 23, 100);"
      + "tape most 900 if year < 9; rule(0, 50); tape late 1; rule(0, 50);"
      + "all(0, 1000); all(1, 500); fund(5000); lent(0, 0, 10); lent(1, 1, 4); lent(0, 2, 3);"
      + "died(0, -1); heir(0, 1, 50); join(1, 0, 2); join(0, 0, 1); close();"
      + "put(0, 0, 0, 12); all(0, 70); fund(33); lent(1, 0, 6); image();"
      + "fund(44); all(1, 80); put(0, 1, 1, 5); died(1, 0); lay(3); set(1, 5); set(2, -8); tape who 1;";

  /** One DRAWN LIBRARY of REGION 0, one EDITION, and the one that wrote it. */
  static final String SMALL = "library(0, 10); draw(1); edition(0, 1, 0); person(1, 0, -50); share(0, 0, 100);";

  private Lands() {
  }

  /** One DRAWN LIBRARY of REGION 0 and so many EDITIONS, each written by a PERSON of its own. */
  static String writers(int many) {
    return "library(0, 10); draw(1);"
        + Bounds.each(many, "edition(0, #, 0); person(#, 0, -50)")
        + Bounds.each(many, "share(#, #0, 100)");
  }

  /** LOANS of that LIBRARY, and ALL of as many, so that each ESTIMATE is its number of LOANS. */
  static String lent(int... loans) {
    StringBuilder text = new StringBuilder();
    int all = 0;
    for (int i = 0; i < loans.length; i++) {
      if (loans[i] > 0) {
        text.append("lent(0, ").append(i).append(", ").append(loans[i]).append(");");
      }
      all += loans[i];
    }
    return text.append("all(0, ").append(all).append(");").toString();
  }
}
