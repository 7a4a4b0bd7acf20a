import java.math.BigInteger;
import java.util.ArrayList;
import java.util.Comparator;
import java.util.HashMap;
import java.util.List;
import java.util.Map;
import java.util.TreeMap;
import java.util.TreeSet;

/**
 * The document worked a second time, as plainly as can be and without a thought
 * for room or speed, so that random runs can hold the class against it.
 */
final class PlainModel {
  private static final int[] POINTS = {12, 12, 6, 7, 4, 6};

  record Library(int region, int size) {
  }

  record Entry(int year, int library, int edition, int told, int n) {
  }

  record Edition(int kind, int title, int printed) {
  }

  record Person(int name, int land, int born) {
  }

  record Share(int edition, int person, int role, int parts, int claimed) {
  }

  record Rule(int key, int from, int to, List<String> body, List<String> when) {
  }

  record Payment(int of, int closing, int person, BigInteger pence) {
  }

  /** All that an image keeps. */
  static final class State {
    int open = 0;
    List<Library> libraries = new ArrayList<>();
    List<Entry> entries = new ArrayList<>();
    List<Edition> editions = new ArrayList<>();
    List<Person> persons = new ArrayList<>();
    List<Share> shares = new ArrayList<>();
    List<Rule> rules = new ArrayList<>();
    List<Payment> payments = new ArrayList<>();
    Map<Integer, Integer> died = new TreeMap<>();
    Map<Integer, Integer> heirs = new TreeMap<>();
    Map<Integer, Integer> bookJoins = new TreeMap<>();
    Map<Integer, Integer> oneJoins = new TreeMap<>();
    Map<Integer, TreeSet<Integer>> drawn = new TreeMap<>();
    Map<String, BigInteger> told = new HashMap<>();

    State copy() {
      State s = new State();
      s.open = open;
      s.libraries = new ArrayList<>(libraries);
      s.entries = new ArrayList<>(entries);
      s.editions = new ArrayList<>(editions);
      s.persons = new ArrayList<>(persons);
      s.shares = new ArrayList<>(shares);
      s.rules = new ArrayList<>(rules);
      s.payments = new ArrayList<>(payments);
      s.died = new TreeMap<>(died);
      s.heirs = new TreeMap<>(heirs);
      s.bookJoins = new TreeMap<>(bookJoins);
      s.oneJoins = new TreeMap<>(oneJoins);
      s.drawn = new TreeMap<>();
      drawn.forEach((y, set) -> s.drawn.put(y, new TreeSet<>(set)));
      s.told = new HashMap<>(told);
      return s;
    }
  }

  private State s = new State();
  private State kept = null;
  private final List<Integer> tape = new ArrayList<>();
  private List<Integer> row = null;
  private final Map<Integer, Integer> refusals = new TreeMap<>();

  private int no(int by) {
    refusals.merge(by, 1, Integer::sum);
    return by;
  }

  private int zero(int by) {
    no(by);
    return 0;
  }

  private static boolean in(long n, long least, long most) {
    return least <= n && n <= most;
  }

  private static boolean has(List<?> list, int n) {
    return in(n, 0, list.size() - 1);
  }

  private static BigInteger big(long n) {
    return BigInteger.valueOf(n);
  }

  private BigInteger told(String what, int year, int region) {
    return s.told.getOrDefault(what + year + "/" + region, BigInteger.ZERO);
  }

  private BigInteger tell(String what, int year, int region, BigInteger n) {
    BigInteger before = told(what, year, region);
    s.told.put(what + year + "/" + region, n);
    return before;
  }

  /** Those told in the YEAR, else those of the YEAR ahead. */
  private TreeSet<Integer> drawn(int year) {
    for (int y = year; y >= 0; y--) {
      if (s.drawn.containsKey(y)) {
        return s.drawn.get(y);
      }
    }
    return new TreeSet<>();
  }

  /** For those who choose calls: it counts as none. */
  boolean isDrawnNow(int library) {
    return drawn(s.open).contains(library);
  }

  // ---- libraries, loans

  int library(int region, int size) {
    if (!in(region, 0, 3) || !in(size, 1, 99999)) {
      return no(-7);
    }
    if (s.libraries.size() == 12) {
      return no(-8);
    }
    s.libraries.add(new Library(region, size));
    return s.libraries.size() - 1;
  }

  int draw(int bits) {
    TreeSet<Integer> set = new TreeSet<>();
    for (int i = 0; i < 32; i++) {
      if ((bits >>> i & 1) == 1) {
        if (i >= s.libraries.size()) {
          return no(-7);
        }
        set.add(i);
      }
    }
    if (s.entries.stream().anyMatch(e -> e.year() == s.open)) {
      return no(-7);
    }
    s.drawn.put(s.open, set);
    return set.size();
  }

  int all(int region, int n) {
    if (!in(region, 0, 3)) {
      return no(-3);
    }
    if (!in(n, 0, 9999999)) {
      return no(-7);
    }
    return tell("all", s.open, region, big(n)).intValueExact();
  }

  private boolean tellLoans(int year, int library, int edition, int n) {
    int at = -1;
    for (int i = 0; i < s.entries.size(); i++) {
      Entry e = s.entries.get(i);
      if (e.year() == year && e.library() == library && e.edition() == edition && e.told() == s.open) {
        at = i;
      }
    }
    Entry now = new Entry(year, library, edition, s.open, n);
    if (at >= 0) {
      s.entries.set(at, now);
      return true;
    }
    return s.entries.size() < 400 && s.entries.add(now);
  }

  private int loans(int year, int library, int edition, int as) {
    return s.entries.stream()
        .filter(e -> e.year() == year && e.library() == library && e.edition() == edition && e.told() <= as)
        .max(Comparator.comparingInt(Entry::told)).map(Entry::n).orElse(0);
  }

  int lent(int library, int edition, int n) {
    if (!has(s.libraries, library) || !has(s.editions, edition)) {
      return no(-3);
    }
    if (!drawn(s.open).contains(library)) {
      return no(-5);
    }
    if (!in(n, 1, 99999)) {
      return no(-7);
    }
    int sum = loans(s.open, library, edition, s.open) + n;
    return sum <= 9999999 && tellLoans(s.open, library, edition, sum) ? sum : no(-8);
  }

  int put(int year, int library, int edition, int n) {
    if (!in(year, 0, s.open - 1) || !has(s.libraries, library) || !has(s.editions, edition)) {
      return no(-3);
    }
    if (!drawn(year).contains(library)) {
      return no(-5);
    }
    if (!in(n, 0, 9999999)) {
      return no(-7);
    }
    int before = loans(year, library, edition, s.open);
    return tellLoans(year, library, edition, n) ? before : no(-8);
  }

  private boolean isPair(int of) {
    return of >= 0 && has(s.libraries, of / 100) && has(s.editions, of % 100);
  }

  private boolean isYear(int year) {
    return in(year, 0, s.open);
  }

  int known(int year, int of, int as) {
    return isYear(year) && isYear(as) && isPair(of) ? loans(year, of / 100, of % 100, as) : zero(-3);
  }

  int look(int library, int what) {
    if (!has(s.libraries, library)) {
      return no(-3);
    }
    int sum = 0;
    for (int e = 0; e < s.editions.size(); e++) {
      sum += loans(s.open, library, e, s.open);
    }
    return switch (what) {
      case 0 -> s.libraries.get(library).region();
      case 1 -> s.libraries.get(library).size();
      case 2 -> drawn(s.open).contains(library) ? 1 : 0;
      case 3 -> sum;
      default -> no(-7);
    };
  }

  long year(int year, int what) {
    if (!isYear(year)) {
      return zero(-3);
    }
    return switch (what) {
      case 0 -> drawn(year).stream().mapToInt(l -> 1 << l).sum();
      case 1, 2, 3, 4 -> told("all", year, what - 1).longValueExact();
      case 5 -> told("pence", year, 0).longValueExact();
      case 6 -> told("parted", year, 0).longValueExact();
      case 7 -> told("back", year, 0).longValueExact();
      case 8 -> told("rest", year, 0).longValueExact();
      default -> zero(-7);
    };
  }

  // ---- editions, persons, shares

  int edition(int kind, int title, int printed) {
    if (!in(kind, 0, 5) || !in(title, 0, 9999) || !in(printed, -99, s.open)) {
      return no(-7);
    }
    if (s.editions.size() == 30) {
      return no(-8);
    }
    s.editions.add(new Edition(kind, title, printed));
    return s.editions.size() - 1;
  }

  int person(int name, int land, int born) {
    if (!in(name, 0, 9999) || !in(land, 0, 3) || born != -100 && !in(born, -99, s.open)) {
      return no(-7);
    }
    if (s.persons.size() == 20) {
      return no(-8);
    }
    s.persons.add(new Person(name, land, born));
    return s.persons.size() - 1;
  }

  int died(int person, int year) {
    if (!has(s.persons, person)) {
      return zero(-3);
    }
    int born = s.persons.get(person).born();
    if (!in(year, -99, s.open) || born != -100 && year < born) {
      return zero(-7);
    }
    Integer before = s.died.put(person, year);
    return before == null ? -100 : before;
  }

  private int heirParts(int person, int heir) {
    return s.heirs.getOrDefault(person * 1000 + heir, 0);
  }

  private int heirPartsInAll(int person) {
    int sum = 0;
    for (int h = 0; h < s.persons.size(); h++) {
      sum += heirParts(person, h);
    }
    return sum;
  }

  int heir(int person, int heir, int parts) {
    if (!has(s.persons, person) || !has(s.persons, heir)) {
      return no(-3);
    }
    int before = heirParts(person, heir);
    if (person == heir || !in(parts, 0, 100) || heirPartsInAll(person) - before + parts > 100) {
      return no(-7);
    }
    s.heirs.put(person * 1000 + heir, parts);
    return before;
  }

  private int partsOf(int edition) {
    return s.shares.stream().filter(h -> h.edition() == edition).mapToInt(Share::parts).sum();
  }

  int share(int edition, int of, int parts) {
    if (!has(s.editions, edition) || of < 0 || !has(s.persons, of / 10)) {
      return no(-3);
    }
    if (of % 10 > 4 || !in(parts, 1, 100)) {
      return no(-7);
    }
    if (s.shares.size() == 60 || partsOf(edition) + parts > 100) {
      return no(-8);
    }
    s.shares.add(new Share(edition, of / 10, of % 10, parts, s.open));
    return s.shares.size() - 1;
  }

  /** The least number that can be come to by joins. */
  private static int head(Map<Integer, Integer> joins, int n) {
    TreeSet<Integer> group = new TreeSet<>(List.of(n));
    for (boolean grows = true; grows;) {
      grows = false;
      for (int pair : joins.keySet()) {
        int a = pair / 1000;
        int b = pair % 1000;
        if (group.contains(a) != group.contains(b)) {
          group.add(a);
          group.add(b);
          grows = true;
        }
      }
    }
    return group.first();
  }

  private int book(int edition) {
    return head(s.bookJoins, edition);
  }

  private int one(int person) {
    return head(s.oneJoins, person);
  }

  int editionOf(int edition, int what) {
    if (!has(s.editions, edition)) {
      return zero(-3);
    }
    Edition e = s.editions.get(edition);
    return switch (what) {
      case 0 -> e.kind();
      case 1 -> e.title();
      case 2 -> e.printed();
      case 3 -> book(edition);
      case 4 -> partsOf(edition);
      default -> zero(-7);
    };
  }

  int personOf(int person, int what) {
    if (!has(s.persons, person)) {
      return zero(-3);
    }
    Person p = s.persons.get(person);
    return switch (what) {
      case 0 -> p.name();
      case 1 -> p.land();
      case 2 -> p.born();
      case 3 -> s.died.getOrDefault(person, -100);
      case 4 -> one(person);
      case 5 -> heirPartsInAll(person);
      default -> zero(-7);
    };
  }

  int shareOf(int share, int what) {
    if (!has(s.shares, share)) {
      return no(-3);
    }
    Share h = s.shares.get(share);
    return switch (what) {
      case 0 -> h.edition();
      case 1 -> h.person();
      case 2 -> h.role();
      case 3 -> h.parts();
      case 4 -> h.claimed();
      default -> no(-7);
    };
  }

  private TreeSet<Integer> writers(int edition) {
    TreeSet<Integer> set = new TreeSet<>();
    for (Share h : s.shares) {
      if (h.edition() == edition && h.role() == 0) {
        set.add(h.person());
      }
    }
    return set;
  }

  private TreeSet<Integer> ones(TreeSet<Integer> persons) {
    TreeSet<Integer> set = new TreeSet<>();
    for (int p : persons) {
      set.add(one(p));
    }
    return set;
  }

  private int sameEditions(int a, int b) {
    TreeSet<Integer> ofA = writers(a);
    TreeSet<Integer> ofB = writers(b);
    TreeSet<Integer> common = ones(ofA);
    common.retainAll(ones(ofB));
    Edition x = s.editions.get(a);
    Edition y = s.editions.get(b);
    boolean never = x.title() != y.title() || !ofA.isEmpty() && !ofB.isEmpty() && common.isEmpty();
    for (int w : ofB) {
      int born = s.persons.get(w).born();
      never |= born != -100 && x.printed() < born;
    }
    for (int w : ofA) {
      int born = s.persons.get(w).born();
      never |= born != -100 && y.printed() < born;
    }
    return never ? 0 : common.isEmpty() ? 1 : 2;
  }

  private int samePersons(int a, int b) {
    Person x = s.persons.get(a);
    Person y = s.persons.get(b);
    boolean known = x.born() != -100 && y.born() != -100;
    boolean never = x.name() != y.name() || known && x.born() != y.born();
    if (s.died.containsKey(a) && y.born() != -100) {
      never |= s.died.get(a) < y.born();
    }
    if (s.died.containsKey(b) && x.born() != -100) {
      never |= s.died.get(b) < x.born();
    }
    return never ? 0 : known ? 2 : 1;
  }

  int same(int what, int a, int b) {
    if (what != 0 && what != 1) {
      return no(-7);
    }
    List<?> of = what == 0 ? s.editions : s.persons;
    if (!has(of, a) || !has(of, b)) {
      return no(-3);
    }
    if (a == b) {
      return no(-7);
    }
    return what == 0 ? sameEditions(a, b) : samePersons(a, b);
  }

  int join(int what, int a, int b) {
    int same = same(what, a, b);
    if (same < 0) {
      return same;
    }
    if (same == 0) {
      return no(-7);
    }
    (what == 0 ? s.bookJoins : s.oneJoins).put(a * 1000 + b, 1);
    return what == 0 ? book(a) : one(a);
  }

  // ---- rules

  int feed(int bytes, int n) {
    if (n < 0) {
      return no(-4);
    }
    if (n > 4) {
      return no(-7);
    }
    if (tape.size() + n > 120) {
      return no(-8);
    }
    int[] four = {bytes >>> 24, bytes >>> 16 & 255, bytes >>> 8 & 255, bytes & 255};
    for (int i = 4 - n; i < 4; i++) {
      tape.add(four[i]);
    }
    return tape.size();
  }

  int wipe() {
    int had = tape.size();
    tape.clear();
    return had;
  }

  int rule(int from, int to) {
    if (!(0 <= from && from < to && to <= 100)) {
      return no(-7);
    }
    if (s.rules.size() == 12) {
      return no(-8);
    }
    List<PlainRules.Token> tokens = PlainRules.tokens(tape);
    int fault = PlainRules.fault(tokens);
    if (fault >= 0) {
      return -10 - fault;
    }
    tape.clear();
    int key = PlainRules.KEYS.indexOf(tokens.get(0).text());
    s.rules.add(new Rule(key, from, to, PlainRules.body(tokens), PlainRules.when(tokens)));
    return s.rules.size() - 1;
  }

  private Map<String, Integer> names(int key, int year, int share, int as) {
    Map<String, Integer> names = new HashMap<>();
    PlainRules.NAMES.forEach(n -> names.put(n, 0));
    names.put("year", year);
    if (key <= 2 && share >= 0) {
      Share h = s.shares.get(share);
      names.put("role", h.role());
      names.put("parts", h.parts());
      names.put("kind", s.editions.get(h.edition()).kind());
      names.put("printed", s.editions.get(h.edition()).printed());
      names.put("title", s.editions.get(h.edition()).title());
      names.put("land", s.persons.get(h.person()).land());
      Integer died = s.died.get(h.person());
      names.put("dead", died == null || died >= year ? 0 : year - died);
      names.put("claim", h.claimed());
      names.put("loans", estimate(year, as).get(h.edition()).intValueExact());
    }
    return names;
  }

  private int ruling(int key, int year, int without, Map<String, Integer> names) {
    int best = -1;
    for (int r = 0; r < s.rules.size(); r++) {
      Rule rule = s.rules.get(r);
      if (r != without && rule.key() == key && rule.from() <= year && year < rule.to()
          && (rule.when().isEmpty() || PlainRules.worth(rule.when(), names) != 0)) {
        best = r;
      }
    }
    return best;
  }

  private int worth(int key, int year, int without, Map<String, Integer> names) {
    int r = ruling(key, year, without, names);
    return r < 0 ? new int[] {1, 100, 100, 0, 0, 0}[key] : PlainRules.worth(s.rules.get(r).body(), names);
  }

  private boolean isAsked(int key, int year, int share) {
    return in(key, 0, 5) && isYear(year) && (share == -1 || has(s.shares, share));
  }

  int says(int key, int year, int share) {
    return isAsked(key, year, share) ? worth(key, year, -1, names(key, year, share, s.open)) : zero(-3);
  }

  int why(int key, int year, int share) {
    return isAsked(key, year, share) ? ruling(key, year, -1, names(key, year, share, s.open)) : no(-3);
  }

  // ---- years

  int fund(int pence) {
    return in(pence, 0, 9999999) ? tell("pence", s.open, 0, big(pence)).intValueExact() : no(-7);
  }

  /** Gives out so many by weights, whole; what is left goes to the greatest rests, of like ones the first. */
  private static List<BigInteger> spread(BigInteger pence, List<BigInteger> weights) {
    BigInteger sum = weights.stream().reduce(BigInteger.ZERO, BigInteger::add);
    List<BigInteger> given = new ArrayList<>();
    List<Integer> order = new ArrayList<>();
    if (sum.signum() == 0) {
      weights.forEach(w -> given.add(BigInteger.ZERO));
      return given;
    }
    BigInteger left = pence;
    for (int i = 0; i < weights.size(); i++) {
      given.add(pence.multiply(weights.get(i)).divide(sum));
      left = left.subtract(given.get(i));
      order.add(i);
    }
    order.sort(Comparator.comparing((Integer i) -> pence.multiply(weights.get(i)).mod(sum)).reversed()
        .thenComparing(i -> i));
    for (int k = 0; k < left.intValueExact(); k++) {
      given.set(order.get(k), given.get(order.get(k)).add(BigInteger.ONE));
    }
    return given;
  }

  private BigInteger regionLoans(int year, int region, int edition, int as) {
    long sum = 0;
    for (int l : drawn(year)) {
      if (s.libraries.get(l).region() == region) {
        sum += loans(year, l, edition, as);
      }
    }
    return big(sum);
  }

  private List<BigInteger> estimate(int year, int as) {
    List<BigInteger> sums = new ArrayList<>();
    s.editions.forEach(e -> sums.add(BigInteger.ZERO));
    for (int r = 0; r < 4; r++) {
      List<BigInteger> weights = new ArrayList<>();
      for (int e = 0; e < s.editions.size(); e++) {
        weights.add(regionLoans(year, r, e, as));
      }
      List<BigInteger> given = spread(told("all", year, r), weights);
      for (int e = 0; e < s.editions.size(); e++) {
        sums.set(e, sums.get(e).add(given.get(e)));
      }
    }
    return sums;
  }

  private static long bound(long n) {
    return n < 0 ? 0 : n > 100 ? 100 : n;
  }

  private Map<Integer, BigInteger> workPoints(int year, int as, int without) {
    Map<Integer, BigInteger> points = new TreeMap<>();
    List<BigInteger> estimates = estimate(year, as);
    for (int i = 0; i < s.shares.size(); i++) {
      Share h = s.shares.get(i);
      if (estimates.get(h.edition()).signum() == 0) {
        continue;
      }
      Map<String, Integer> names = names(0, year, i, as);
      long who = worth(0, year, without, names);
      long part = bound(worth(1, year, without, names));
      long abroad = s.persons.get(h.person()).land() == 0 ? 100 : bound(worth(2, year, without, names));
      BigInteger sum = estimates.get(h.edition()).multiply(big(POINTS[s.editions.get(h.edition()).kind()]))
          .multiply(big(h.parts())).multiply(big(part)).multiply(big(abroad)).divide(big(1000000));
      if (who != 0) {
        pass(points, List.of(h.person()), sum, year);
      }
    }
    return points;
  }

  /** The way that POINTS went so far: a PERSON, then HEIRS. */
  private void pass(Map<Integer, BigInteger> points, List<Integer> way, BigInteger sum, int year) {
    int person = way.get(way.size() - 1);
    Integer died = s.died.get(person);
    if (died == null || died >= year) {
      points.merge(one(person), sum, BigInteger::add);
      return;
    }
    for (int h = 0; h < s.persons.size() && way.size() <= 4; h++) {
      int parts = heirParts(person, h);
      if (parts > 0) {
        List<Integer> on = new ArrayList<>(way);
        on.add(h);
        pass(points, on, sum.multiply(big(parts)).divide(big(100)), year);
      }
    }
  }

  /** What each ONE gets of so many pence. */
  private Map<Integer, BigInteger> part(BigInteger pence, int year, int as, int without) {
    Map<Integer, BigInteger> points = workPoints(year, as, without);
    points.values().removeIf(p -> p.signum() == 0);
    Map<String, Integer> names = names(3, year, -1, as);
    BigInteger most = big(worth(3, year, without, names));
    BigInteger least = big(worth(4, year, without, names));
    Map<Integer, BigInteger> gets = new TreeMap<>();
    List<Integer> in = new ArrayList<>(points.keySet());
    BigInteger left = pence;
    for (boolean moves = most.signum() > 0; moves;) {
      BigInteger sum = in.stream().map(points::get).reduce(BigInteger.ZERO, BigInteger::add);
      BigInteger now = left;
      List<Integer> out = new ArrayList<>();
      for (int p : in) {
        if (now.multiply(points.get(p)).compareTo(most.multiply(sum)) > 0) {
          out.add(p);
          gets.put(p, most);
          left = left.subtract(most);
        }
      }
      in.removeAll(out);
      moves = !out.isEmpty();
    }
    List<BigInteger> weights = new ArrayList<>();
    in.forEach(p -> weights.add(points.get(p)));
    List<BigInteger> given = spread(left, weights);
    for (int i = 0; i < in.size(); i++) {
      gets.put(in.get(i), given.get(i));
    }
    gets.values().removeIf(g -> g.compareTo(least) < 0);
    return gets;
  }

  private static BigInteger sumOf(Map<Integer, BigInteger> of) {
    return of.values().stream().reduce(BigInteger.ZERO, BigInteger::add);
  }

  private BigInteger gotOf(int year, int one) {
    BigInteger sum = BigInteger.ZERO;
    for (Payment p : s.payments) {
      if (p.of() == year && one(p.person()) == one) {
        sum = sum.add(p.pence());
      }
    }
    return sum;
  }

  private BigInteger payBack(int past, BigInteger left) {
    Map<Integer, BigInteger> lacks = part(told("parted", past, 0), past, s.open, -1);
    lacks.replaceAll((p, g) -> g.subtract(gotOf(past, p)));
    lacks.values().removeIf(g -> g.signum() <= 0);
    BigInteger sum = sumOf(lacks);
    if (sum.compareTo(left) > 0) {
      lacks.replaceAll((p, g) -> g.multiply(left).divide(sum));
    }
    lacks.forEach((p, g) -> s.payments.add(new Payment(past, s.open, p, g)));
    return left.subtract(sumOf(lacks));
  }

  int close() {
    if (s.open == 40) {
      return no(-8);
    }
    int year = s.open;
    BigInteger fund = told("pence", year, 0).add(told("rest", year - 1, 0));
    BigInteger left = fund;
    int late = Math.min(40, Math.max(0, worth(5, year, -1, names(5, year, -1, year))));
    for (int past = 0; past < year; past++) {
      if (year - past <= late) {
        left = payBack(past, left);
      }
    }
    tell("back", year, 0, fund.subtract(left));
    tell("parted", year, 0, left);
    Map<Integer, BigInteger> gets = part(left, year, year, -1);
    gets.forEach((p, g) -> s.payments.add(new Payment(year, year, p, g)));
    tell("rest", year, 0, left.subtract(sumOf(gets)));
    TreeSet<Integer> got = new TreeSet<>();
    for (Payment p : s.payments) {
      if (p.closing() == year && p.pence().signum() > 0) {
        got.add(p.person());
      }
    }
    s.open++;
    return got.size();
  }

  int estimate(int year, int edition, int as) {
    boolean there = isYear(year) && has(s.editions, edition) && isYear(as);
    return there ? estimate(year, as).get(edition).intValueExact() : zero(-3);
  }

  long book(int year, int edition) {
    if (!isYear(year) || !has(s.editions, edition)) {
      return zero(-3);
    }
    List<BigInteger> estimates = estimate(year, s.open);
    long sum = 0;
    for (int e = 0; e < s.editions.size(); e++) {
      sum += book(e) == book(edition) ? estimates.get(e).longValueExact() : 0;
    }
    return sum;
  }

  long points(int year, int person) {
    if (!isYear(year) || !has(s.persons, person)) {
      return zero(-3);
    }
    return workPoints(year, s.open, -1).getOrDefault(person, BigInteger.ZERO).longValueExact();
  }

  private long wouldGet(int year, int person, int as, int without) {
    return part(told("parted", year, 0), year, as, without).getOrDefault(person, BigInteger.ZERO)
        .longValueExact();
  }

  long paid(int year, int person, int what) {
    if (!in(year, 0, s.open - 1) || !has(s.persons, person)) {
      return zero(-3);
    }
    if (!in(what, 0, 3)) {
      return zero(-7);
    }
    if (what == 1 || what == 2) {
      return wouldGet(year, person, what == 1 ? s.open : year, -1);
    }
    BigInteger sum = BigInteger.ZERO;
    for (Payment p : s.payments) {
      if (p.person() == person && (what == 0 ? p.of() : p.closing()) == year) {
        sum = sum.add(p.pence());
      }
    }
    return sum.longValueExact();
  }

  long gain(int year, int person, int rule) {
    if (!in(year, 0, s.open - 1) || !has(s.persons, person) || !has(s.rules, rule)) {
      return zero(-3);
    }
    return wouldGet(year, person, s.open, -1) - wouldGet(year, person, s.open, rule);
  }

  // ---- draws, moved loans, spans

  private int width(TreeSet<Integer> set) {
    int width = 0;
    for (int r = 0; r < 4; r++) {
      int region = r;
      if (s.libraries.stream().anyMatch(l -> l.region() == region)) {
        int sizes = set.stream().map(s.libraries::get).filter(l -> l.region() == region)
            .mapToInt(Library::size).sum();
        if (sizes == 0) {
          return -1;
        }
        width = Math.max(width, told("all", s.open - 1, r).intValueExact() / sizes);
      }
    }
    return width;
  }

  /** Sets of n come with the least LIBRARY first, so that the first of like ones is the due one. */
  private void sets(int next, int n, TreeSet<Integer> now, List<TreeSet<Integer>> found) {
    if (n == 0) {
      found.add(new TreeSet<>(now));
      return;
    }
    for (int l = next; l < s.libraries.size(); l++) {
      now.add(l);
      sets(l + 1, n - 1, now, found);
      now.remove(l);
    }
  }

  int bestDraw(int n) {
    if (n < 0) {
      return no(-4);
    }
    if (n > s.libraries.size() || s.open == 0) {
      return no(-7);
    }
    List<TreeSet<Integer>> found = new ArrayList<>();
    sets(0, n, new TreeSet<>(), found);
    found.removeIf(set -> width(set) < 0);
    TreeSet<Integer> drawn = drawn(s.open);
    return found.stream()
        .min(Comparator.comparingInt((TreeSet<Integer> set) -> width(set))
            .thenComparingLong(set -> set.stream().filter(drawn::contains).count()))
        .map(set -> set.stream().mapToInt(l -> 1 << l).sum()).orElse(-1);
  }

  int judge() {
    if (row == null) {
      return no(-2);
    }
    if (s.open == 0) {
      return no(-7);
    }
    TreeSet<Integer> set = new TreeSet<>(row);
    boolean fits = set.size() == row.size() && set.stream().allMatch(l -> has(s.libraries, l));
    return fits ? width(set) : -1;
  }

  private static BigInteger root(BigInteger n) {
    return n.sqrt();
  }

  private boolean isMoved(int year, int library, int edition) {
    BigInteger n = BigInteger.ZERO;
    BigInteger r = BigInteger.ZERO;
    BigInteger sum = BigInteger.ZERO;
    int pairs = 0;
    for (int l : drawn(year)) {
      for (int e = 0; e < s.editions.size(); e++) {
        int k = loans(year, l, e, s.open);
        n = e == edition ? n.add(big(k)) : n;
        r = l == library ? r.add(big(k)) : r;
        sum = sum.add(big(k));
        pairs += k > 0 ? 1 : 0;
      }
    }
    if (sum.signum() == 0) {
      return false;
    }
    BigInteger e = n.multiply(r).divide(sum);
    BigInteger bound = e.add(big(3 + pairs / 8).multiply(root(e).add(BigInteger.ONE)));
    return big(loans(year, library, edition, s.open)).compareTo(bound) > 0;
  }

  int moved(int year, int of) {
    if (!isYear(year) || !isPair(of)) {
      return no(-3);
    }
    if (!drawn(year).contains(of / 100)) {
      return no(-5);
    }
    return isMoved(year, of / 100, of % 100) ? 1 : 0;
  }

  int movedMany(int year) {
    if (!isYear(year)) {
      return no(-3);
    }
    int many = 0;
    for (int l : drawn(year)) {
      for (int e = 0; e < s.editions.size(); e++) {
        many += isMoved(year, l, e) ? 1 : 0;
      }
    }
    return many;
  }

  long span(int year, int edition, int what) {
    if (!isYear(year) || !has(s.editions, edition)) {
      return zero(-3);
    }
    if (what != 0 && what != 1) {
      return zero(-7);
    }
    BigInteger sum = BigInteger.ZERO;
    for (int r = 0; r < 4; r++) {
      BigInteger c = regionLoans(year, r, edition, s.open);
      BigInteger of = BigInteger.ZERO;
      for (int e = 0; e < s.editions.size(); e++) {
        of = of.add(regionLoans(year, r, e, s.open));
      }
      if (of.signum() > 0) {
        BigInteger edge = what == 0 ? c.subtract(root(c)) : c.add(root(c)).add(BigInteger.ONE);
        sum = sum.add(told("all", year, r).multiply(edge).divide(of));
      }
    }
    return sum.longValueExact();
  }

  int count(int what) {
    return switch (what) {
      case 0 -> s.open;
      case 1 -> s.libraries.size();
      case 2 -> s.editions.size();
      case 3 -> s.persons.size();
      case 4 -> s.shares.size();
      case 5 -> s.rules.size();
      case 6 -> s.entries.size();
      case 7 -> tape.size();
      case 8 -> {
        TreeSet<Integer> books = new TreeSet<>();
        for (int e = 0; e < s.editions.size(); e++) {
          books.add(book(e));
        }
        yield books.size();
      }
      case 9 -> {
        TreeSet<Integer> ones = new TreeSet<>();
        for (int p = 0; p < s.persons.size(); p++) {
          ones.add(one(p));
        }
        yield ones.size();
      }
      case 10 -> drawn(s.open).size();
      default -> no(-7);
    };
  }

  int image() {
    kept = s.copy();
    return s.open;
  }

  int back() {
    if (kept == null) {
      return no(-2);
    }
    s = kept.copy();
    return s.open;
  }

  // ---- rows

  int lay(int n) {
    if (n < 0) {
      return no(-4);
    }
    if (n > 12) {
      return no(-7);
    }
    row = new ArrayList<>();
    for (int i = 0; i < n; i++) {
      row.add(0);
    }
    return n;
  }

  int set(int i, int v) {
    if (row == null) {
      return zero(-2);
    }
    return has(row, i) ? row.set(i, v) : zero(-3);
  }

  int tear() {
    int was = row == null ? 0 : 1;
    row = null;
    return was;
  }

  int row(int i) {
    if (row == null) {
      return zero(-2);
    }
    return has(row, i) ? row.get(i) : zero(-3);
  }

  int copy(int i, int j, int n) {
    if (row == null) {
      return no(-2);
    }
    if (n < 0) {
      return no(-4);
    }
    if (i < 0 || j < 0 || (long) i + n > row.size() || (long) j + n > row.size()) {
      return no(-6);
    }
    List<Integer> part = new ArrayList<>(row.subList(i, i + n));
    for (int k = 0; k < n; k++) {
      row.set(j + k, part.get(k));
    }
    return n;
  }

  int status(int by) {
    return in(by, -8, -2) ? refusals.getOrDefault(by, 0) : no(-7);
  }
}
