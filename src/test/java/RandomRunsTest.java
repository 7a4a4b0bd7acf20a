import java.lang.reflect.Method;
import java.util.ArrayList;
import java.util.Collections;
import java.util.HashMap;
import java.util.List;
import java.util.Map;
import java.util.Random;

/** Random runs, most of their calls fitting, held call by call against the plain model. */
public final class RandomRunsTest {
  /** Behind these there is room for status(), and then an object's calls are used up. */
  private static final int MOST_LIVED = 505;
  /** The last hundred and more are for what all YEARS have left behind. */
  private static final int MOST_UNSWEPT = 380;

  private static final String SETTING = "library library draw person person person edition edition edition edition "
      + "share share share share share share heir heir join join join rule";
  private static final String LIVING = "lent lent put put put put all fund rule close "
      + "share person edition heir heir died join library draw image back known known look year editionOf personOf "
      + "shareOf same feed wipe says says says why why estimate estimate book book points points points points "
      + "paid paid paid paid paid paid gain gain gain bestDraw bestDraw judge moved moved movedMany span span "
      + "count lay set set tear row copy status";

  private static final Map<String, Method> REAL = new HashMap<>();
  private static final Map<String, Method> PLAIN = new HashMap<>();

  private final Random random;
  private final LoanPence real = new LoanPence();
  private final PlainModel plain = new PlainModel();
  private final List<String> calls = new ArrayList<>();
  private boolean fine = true;
  private int room = MOST_LIVED;

  private RandomRunsTest(long seed) {
    random = new Random(seed);
  }

  public static void main(String[] args) throws Exception {
    int runs = args.length > 0 ? Integer.parseInt(args[0]) : 1000;
    long first = args.length > 1 ? Long.parseLong(args[1]) : 0;
    for (Method m : LoanPence.class.getDeclaredMethods()) {
      if (java.lang.reflect.Modifier.isPublic(m.getModifiers())) {
        REAL.put(m.getName(), m);
        PLAIN.put(m.getName(), PlainModel.class.getDeclaredMethod(m.getName(), m.getParameterTypes()));
      }
    }
    Due due = new Due("RandomRunsTest");
    for (long seed = first; seed < first + runs; seed++) {
      due.holds("the run of seed " + seed, new RandomRunsTest(seed).run());
    }
    due.end();
  }

  private boolean run() throws Exception {
    String[] setting = SETTING.split(" ");
    String[] living = LIVING.split(" ");
    for (int i = 20 + random.nextInt(100); i > 0; i--) {
      one(chance(12) ? "died" : setting[random.nextInt(setting.length)]);
    }
    while (fine && calls.size() < MOST_UNSWEPT) {
      if (chance(25)) {
        season();
      }
      one(living[random.nextInt(living.length)]);
    }
    List<Call> sweep = sweep();
    Collections.shuffle(sweep, random);
    for (Call c : sweep) {
      call(c.name(), c.args());
    }
    room = Call.MOST;
    for (int by = -8; by <= -2; by++) {
      call("status", by);
    }
    return fine;
  }

  /** What all closed YEARS left behind, and SAME of all pairs: single calls seldom meet two that are nearly alike. */
  private List<Call> sweep() {
    List<Call> asked = new ArrayList<>();
    for (int y = 0; y < plain.count(0); y++) {
      for (int what = 5; what <= 8; what++) {
        asked.add(new Call("year", y, what));
      }
      for (int p = 0; p < plain.count(3); p++) {
        asked.add(new Call("paid", y, p, 0));
        asked.add(new Call("paid", y, p, 3));
      }
    }
    for (int what = 0; what <= 1; what++) {
      int many = plain.count(2 + what);
      for (int a = 0; a < many; a++) {
        for (int b = 0; b < many; b++) {
          asked.add(new Call("same", what, a, b));
        }
      }
    }
    return asked;
  }

  /** A YEAR as it would be told by a land that pays. */
  private void season() throws Exception {
    if (!chance(3)) {
      call("draw", chance(2) ? (1 << plain.count(1)) - 1 : random.nextInt(1 << plain.count(1)));
    }
    for (int r = 0; r < 4; r++) {
      call("all", r, chance(6) ? 0 : amount(9999999));
    }
    call("fund", amount(9999999));
    for (int i = random.nextInt(20); i > 0; i--) {
      one("lent");
    }
    call("close");
    for (int i = 0; i < 4; i++) {
      one("paid");
    }
  }

  private void one(String name) throws Exception {
    switch (name) {
      case "rule" -> ruleOf(random.nextInt(3) == 0 ? torn(ruleText()) : ruleText());
      case "draw" -> call("draw", chance(10) ? random.nextInt() : random.nextInt(1 << plain.count(1)));
      case "feed" -> call("feed", random.nextInt(), random.nextInt(8) - 2);
      case "close" -> call("close");
      default -> {
        int[] args = new int[REAL.get(name).getParameterCount()];
        for (int i = 0; i < args.length; i++) {
          args[i] = chance(60) ? wild() : argument(name, i);
        }
        call(name, args);
      }
    }
  }

  private boolean chance(int oneOf) {
    return random.nextInt(oneOf) == 0;
  }

  private int wild() {
    int[] edges = {Integer.MIN_VALUE, Integer.MAX_VALUE, -1, -100, -101, 0, 100, 9999999, 10000000, 99999, 100000};
    return chance(3) ? random.nextInt() : edges[random.nextInt(edges.length)];
  }

  /** Up to as many as there are, and now and then one beyond. */
  private int numberOf(int what) {
    int many = plain.count(what);
    return chance(30) ? random.nextInt(many + 3) - 1 : many == 0 ? 0 : random.nextInt(many);
  }

  private int drawnLibrary() {
    int library = numberOf(1);
    for (int i = 0; i < 5 && !plain.isDrawnNow(library) && plain.count(1) > 0; i++) {
      library = random.nextInt(plain.count(1));
    }
    return library;
  }

  private int yearNumber() {
    return chance(20) ? plain.count(0) + 1 - random.nextInt(3) : random.nextInt(plain.count(0) + 1);
  }

  private int date() {
    return chance(3) ? random.nextInt(12) - 8 : plain.count(0) - random.nextInt(4);
  }

  private int amount(int most) {
    int[] bounds = {4, 30, 400, 20000, most};
    return random.nextInt(Math.min(most, bounds[random.nextInt(bounds.length)]) + 1);
  }

  private int argument(String name, int i) {
    return switch (name + i) {
      case "library0" -> random.nextInt(chance(20) ? 5 : 4);
      case "library1" -> 1 + amount(99998);
      case "all0" -> random.nextInt(4);
      case "all1" -> amount(9999999);
      case "lent0", "put1", "look0" -> drawnLibrary();
      case "lent1", "put2", "share0", "editionOf0", "estimate1", "book1", "span1" -> numberOf(2);
      case "lent2" -> 1 + amount(99998);
      case "put3" -> amount(9999999);
      case "known1", "moved1" -> 100 * drawnLibrary() + numberOf(2);
      case "look1" -> random.nextInt(5);
      case "year1" -> random.nextInt(10);
      case "edition0" -> random.nextInt(6);
      case "edition1", "person0" -> random.nextInt(3);
      case "edition2", "died1" -> date();
      case "person1" -> Math.max(0, random.nextInt(6) - 2);
      case "person2" -> chance(3) ? -100 : date();
      case "died0", "heir0", "heir1", "personOf0", "points1", "paid1", "gain1" -> numberOf(3);
      case "heir2" -> chance(4) ? 0 : random.nextInt(70);
      case "share1" -> 10 * numberOf(3) + (chance(30) ? random.nextInt(10) : random.nextInt(5) * random.nextInt(2));
      case "share2" -> 1 + random.nextInt(50);
      case "editionOf1", "shareOf1" -> random.nextInt(6);
      case "personOf1" -> random.nextInt(7);
      case "shareOf0", "says2", "why2" -> chance(6) ? -1 : numberOf(4);
      case "same0", "join0", "span2" -> chance(20) ? 2 : random.nextInt(2);
      case "same1", "same2", "join1", "join2" -> numberOf(2 + random.nextInt(2));
      case "says0", "why0" -> random.nextInt(chance(20) ? 7 : 6);
      case "fund0" -> amount(9999999);
      case "paid2" -> random.nextInt(chance(10) ? 5 : 4);
      case "gain2" -> numberOf(5);
      case "bestDraw0" -> chance(10) ? -1 : random.nextInt(plain.count(1) + 2);
      case "count0" -> random.nextInt(12);
      case "lay0" -> chance(10) ? 13 : random.nextInt(5);
      case "set0", "row0", "copy0", "copy1", "copy2" -> random.nextInt(6) - 1;
      case "set1" -> random.nextInt(13);
      case "status0" -> -1 - random.nextInt(9);
      default -> yearNumber();
    };
  }

  // ---- rules

  private void ruleOf(String text) throws Exception {
    if (!chance(10)) {
      call("wipe");
    }
    int i = 0;
    while (i < text.length() && i < 124) {
      int n = Math.min(text.length() - i, chance(3) ? 1 + random.nextInt(4) : 4);
      int bytes = random.nextInt();
      for (int k = 0; k < n; k++) {
        bytes = bytes << 8 | text.charAt(i + k) & 255;
      }
      call("feed", bytes, n);
      i += n;
    }
    int from = chance(20) ? random.nextInt(102) - 1 : random.nextInt(4);
    call("rule", from, chance(20) ? random.nextInt(103) - 1 : from + 1 + random.nextInt(20));
  }

  private String ruleText() {
    if (chance(5)) {
      return "late " + random.nextInt(9);
    }
    String key = PlainRules.KEYS.get(random.nextInt(6));
    int plainly = chance(2) ? 0 : 1 + random.nextInt(3);
    String body = switch (key) {
      case "late" -> chance(3) ? e(plainly) : String.valueOf(random.nextInt(6));
      case "most", "least" -> chance(2) ? e(plainly) : String.valueOf(amount(99999));
      case "part", "abroad" -> chance(2) ? e(plainly) : String.valueOf(random.nextInt(120));
      default -> chance(2) ? e(plainly) : e(plainly) + " or " + e(plainly);
    };
    return key + " " + body + (chance(2) ? " if " + e(random.nextInt(3)) : chance(4) ? " " : "");
  }

  private String e(int deep) {
    String text = and(deep);
    return chance(4) ? text + " or " + and(deep) : text;
  }

  private String and(int deep) {
    String text = not(deep);
    return chance(4) ? text + " and " + not(deep) : text;
  }

  private String not(int deep) {
    if (chance(5)) {
      return "not " + not(deep);
    }
    String[] signs = {"=", "<", ">", " > ", " < "};
    return chance(2) ? sum(deep) : sum(deep) + signs[random.nextInt(signs.length)] + sum(deep);
  }

  private String sum(int deep) {
    String text = term(deep);
    return chance(3) ? text + (chance(2) ? "+" : " - ") + term(deep) : text;
  }

  private String term(int deep) {
    String[] signs = {"*", "/", "%"};
    return chance(3) ? atom(deep) + signs[random.nextInt(3)] + atom(deep) : atom(deep);
  }

  private String atom(int deep) {
    if (deep > 0 && chance(2)) {
      return "(" + e(deep - 1) + ")";
    }
    if (chance(8)) {
      return "-" + atom(deep);
    }
    int[] numbers = {0, 1, 2, 3, 7, 40, 50, 99, 1000, 9999999};
    return chance(2) ? PlainRules.NAMES.get(random.nextInt(10)) : String.valueOf(numbers[random.nextInt(10)]);
  }

  /** Something is cut out, put in, or said twice. */
  private String torn(String text) {
    StringBuilder now = new StringBuilder(text);
    int at = random.nextInt(now.length());
    String[] pieces = {"(", ")", "not ", "-", "((((((", "------", "if ", "12345678", "x", " ", "=", "=1=", "\0",
      "or ", "and ", "who ", "parts", "%", "A", "\u00e9", "+", "not not not not not not ", "7"};
    switch (random.nextInt(4)) {
      case 0 -> now.delete(at, Math.min(now.length(), at + 1 + random.nextInt(3)));
      case 1 -> now.insert(at, pieces[random.nextInt(pieces.length)]);
      case 2 -> now.setLength(at);
      default -> now.append(pieces[random.nextInt(pieces.length)]);
    }
    return now.toString();
  }

  // ---- calls

  private void call(String name, int... args) throws Exception {
    if (!fine || calls.size() >= room) {
      return;
    }
    Object[] boxed = new Object[args.length];
    StringBuilder text = new StringBuilder(name).append("(");
    for (int i = 0; i < args.length; i++) {
      boxed[i] = args[i];
      text.append(i == 0 ? "" : ", ").append(args[i]);
    }
    Number want = (Number) PLAIN.get(name).invoke(plain, boxed);
    Number got = (Number) REAL.get(name).invoke(real, boxed);
    calls.add(text.append(") = ").append(want).toString());
    if (got.longValue() != want.longValue()) {
      fine = false;
      calls.forEach(System.out::println);
      System.out.println("the last one answered " + got);
    }
  }
}
