import java.util.ArrayList;
import java.util.List;

/** Questions of all that an object holds, but status(): two that answer them alike are taken for alike. */
final class Sight {
  /** Large lands are looked at by so many questions, taken evenly from all of them. */
  private static final int MOST_ASKED = 700;

  private final List<Call> asked = new ArrayList<>();
  private final int open;

  private Sight(LoanPence x) {
    open = x.count(0);
    int libraries = x.count(1);
    int editions = x.count(2);
    int persons = x.count(3);
    int shares = x.count(4);
    table("count", 1, 11);
    table("look", libraries, 4);
    table("year", open + 1, 9);
    table("editionOf", editions, 5);
    table("personOf", persons, 6);
    table("shareOf", shares, 5);
    table("row", 1, 12);
    for (int size = 0; size <= 12; size++) {
      ask("copy", size, size, 0);
    }
    int few = asked.size();
    loans(libraries, editions);
    years(editions, persons);
    sayings(shares);
    thin(few);
  }

  /** Of an object that may be used up by it. */
  static List<Call> of(LoanPence x) {
    return new Sight(x).asked;
  }

  /** Something done, and what is asked then. */
  record Deed(Call done, List<Call> asked) {
  }

  /** What shows that can't be asked: the bytes of THE TAPE, what the next YEAR is made of. */
  static List<Deed> deeds(int open) {
    List<Call> says = new ArrayList<>();
    for (int key = 0; key < 6; key++) {
      says.add(new Call("says", key, open, -1));
    }
    List<Call> years = new ArrayList<>();
    for (int what = 0; what <= 8; what++) {
      years.add(new Call("year", open, what));
      years.add(new Call("year", open + 1, what));
    }
    years.add(new Call("bestDraw", 1));
    return List.of(new Deed(new Call("rule", 0, 100), says), new Deed(new Call("close"), years));
  }

  private void ask(String name, int... args) {
    asked.add(new Call(name, args));
  }

  /** A call of one argument below n, or of two, the first of them below many. */
  private void table(String name, int many, int n) {
    boolean single = name.equals("count") || name.equals("row");
    for (int i = 0; i < many; i++) {
      for (int what = 0; what < n; what++) {
        if (single) {
          ask(name, what);
        } else {
          ask(name, i, what);
        }
      }
    }
  }

  private void loans(int libraries, int editions) {
    for (int y = 0; y <= open; y++) {
      for (int l = 0; l < libraries; l++) {
        for (int e = 0; e < editions; e++) {
          ask("known", y, 100 * l + e, open);
          if (y < open) {
            ask("known", y, 100 * l + e, open - 1);
          }
        }
      }
    }
  }

  private void years(int editions, int persons) {
    for (int y = 0; y <= open; y++) {
      for (int p = 0; p < persons; p++) {
        ask("points", y, p);
        for (int what = 0; what <= 3 && y < open; what++) {
          ask("paid", y, p, what);
        }
      }
      for (int e = 0; e < editions; e++) {
        ask("estimate", y, e, open);
        ask("book", y, e);
      }
    }
  }

  private void sayings(int shares) {
    for (int key = 0; key < 6; key++) {
      for (int y = Math.max(0, open - 2); y <= open; y++) {
        for (int s = -1; s < shares; s++) {
          ask("says", key, y, s);
          ask("why", key, y, s);
        }
      }
    }
  }

  private void thin(int from) {
    int many = asked.size() - from;
    if (many <= MOST_ASKED) {
      return;
    }
    List<Call> kept = new ArrayList<>(asked.subList(0, from));
    for (int i = 0; i < MOST_ASKED; i++) {
      kept.add(asked.get(from + (int) ((long) i * many / MOST_ASKED)));
    }
    asked.clear();
    asked.addAll(kept);
  }
}
