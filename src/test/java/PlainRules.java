import java.util.ArrayList;
import java.util.Arrays;
import java.util.List;
import java.util.Map;

/**
 * RULES read and worked in another way than the class does it: faults by what is
 * awaited at each token and a list of what is open, worth by splitting the text
 * at its loosest sign.
 */
final class PlainRules {
  static final List<String> KEYS = Arrays.asList("who", "part", "abroad", "most", "least", "late");
  static final List<String> NAMES = Arrays.asList(
      "role", "kind", "land", "year", "dead", "claim", "parts", "printed", "title", "loans");
  private static final List<String> OTHERS = Arrays.asList("if", "or", "and", "not");

  private PlainRules() {
  }

  /** A token: its text ("" at the end, "?" if it is none) and where it begins. */
  record Token(String text, int place) {
  }

  static List<Token> tokens(List<Integer> tape) {
    List<Token> found = new ArrayList<>();
    int i = 0;
    while (i < tape.size()) {
      int c = tape.get(i);
      int start = i;
      if (c == 32) {
        i++;
        continue;
      }
      StringBuilder text = new StringBuilder();
      if (c >= 'a' && c <= 'z') {
        while (i < tape.size() && tape.get(i) >= 'a' && tape.get(i) <= 'z') {
          text.append((char) (int) tape.get(i++));
        }
        String word = text.toString();
        boolean known = KEYS.contains(word) || NAMES.contains(word) || OTHERS.contains(word);
        found.add(new Token(known ? word : "?", start));
      } else if (c >= '0' && c <= '9') {
        while (i < tape.size() && tape.get(i) >= '0' && tape.get(i) <= '9') {
          text.append((char) (int) tape.get(i++));
        }
        found.add(new Token(text.length() <= 7 ? text.toString() : "?", start));
      } else {
        i++;
        found.add(new Token("()+-*/%=<>".indexOf(c) >= 0 ? String.valueOf((char) c) : "?", start));
      }
    }
    found.add(new Token("", tape.size()));
    return found;
  }

  private static boolean isAtom(String text) {
    return !text.isEmpty() && (Character.isDigit(text.charAt(0)) || NAMES.contains(text));
  }

  private static boolean isOneOf(String text, String many) {
    return !text.isEmpty() && Arrays.asList(many.split(" ")).contains(text);
  }

  /** The place of the first token that can't stand; -1 if the tape is a RULE. */
  static int fault(List<Token> tokens) {
    if (!KEYS.contains(tokens.get(0).text())) {
      return tokens.get(0).place();
    }
    List<String> open = new ArrayList<>();
    List<Boolean> compared = new ArrayList<>(List.of(false));
    boolean awaits = true;
    boolean mayNot = true;
    boolean behindIf = false;
    for (int i = 1; i < tokens.size(); i++) {
      String t = tokens.get(i).text();
      int place = tokens.get(i).place();
      if (awaits) {
        if (isAtom(t)) {
          awaits = false;
          closeAll(open, "-");
        } else if (t.equals("-") || t.equals("(") || t.equals("not") && mayNot) {
          if (open.size() >= 6) {
            return place;
          }
          open.add(t);
          mayNot = !t.equals("-");
          if (t.equals("(")) {
            compared.add(false);
          }
        } else {
          return place;
        }
        continue;
      }
      int top = compared.size() - 1;
      if (isOneOf(t, "+ - * / %")) {
        awaits = true;
        mayNot = false;
      } else if (isOneOf(t, "= < >") && !compared.get(top)) {
        compared.set(top, true);
        awaits = true;
        mayNot = false;
      } else if (isOneOf(t, "or and")) {
        closeAll(open, "not");
        compared.set(top, false);
        awaits = true;
        mayNot = true;
      } else if (t.equals(")")) {
        closeAll(open, "not");
        if (open.isEmpty()) {
          return place;
        }
        open.remove(open.size() - 1);
        compared.remove(top);
        closeAll(open, "-");
      } else if (t.equals("if") && !behindIf && !open.contains("(")) {
        open.clear();
        compared.set(0, false);
        behindIf = true;
        awaits = true;
        mayNot = true;
      } else if (t.isEmpty() && !open.contains("(")) {
        return -1;
      } else {
        return place;
      }
    }
    return tokens.get(tokens.size() - 1).place();
  }

  private static void closeAll(List<String> open, String what) {
    while (!open.isEmpty() && open.get(open.size() - 1).equals(what)) {
      open.remove(open.size() - 1);
    }
  }

  static List<String> body(List<Token> tokens) {
    List<String> all = texts(tokens);
    int at = all.indexOf("if");
    return all.subList(1, at < 0 ? all.size() : at);
  }

  /** Empty if there is no if. */
  static List<String> when(List<Token> tokens) {
    List<String> all = texts(tokens);
    int at = all.indexOf("if");
    return at < 0 ? new ArrayList<>() : all.subList(at + 1, all.size());
  }

  private static List<String> texts(List<Token> tokens) {
    List<String> all = new ArrayList<>();
    for (Token t : tokens) {
      if (!t.text().isEmpty()) {
        all.add(t.text());
      }
    }
    return all;
  }

  /** Where the last of some signs stands between two sides, outside all brackets; -1: nowhere. */
  private static int lastOf(List<String> text, String signs) {
    int deep = 0;
    for (int i = text.size() - 1; i > 0; i--) {
      String t = text.get(i);
      deep += t.equals(")") ? 1 : t.equals("(") ? -1 : 0;
      String ahead = text.get(i - 1);
      if (deep == 0 && isOneOf(t, signs) && (isAtom(ahead) || ahead.equals(")"))) {
        return i;
      }
    }
    return -1;
  }

  static int worth(List<String> text, Map<String, Integer> names) {
    int at = lastOf(text, "or");
    at = at < 0 ? lastOf(text, "and") : at;
    if (at < 0 && text.get(0).equals("not")) {
      return worth(text.subList(1, text.size()), names) == 0 ? 1 : 0;
    }
    at = at < 0 ? lastOf(text, "= < >") : at;
    at = at < 0 ? lastOf(text, "+ -") : at;
    at = at < 0 ? lastOf(text, "* / %") : at;
    if (at >= 0) {
      int a = worth(text.subList(0, at), names);
      int b = worth(text.subList(at + 1, text.size()), names);
      return ofTwo(text.get(at), a, b);
    }
    if (text.get(0).equals("-")) {
      return -worth(text.subList(1, text.size()), names);
    }
    if (text.get(0).equals("(")) {
      return worth(text.subList(1, text.size() - 1), names);
    }
    Integer named = names.get(text.get(0));
    return named != null ? named : Integer.parseInt(text.get(0));
  }

  private static int ofTwo(String sign, int a, int b) {
    return switch (sign) {
      case "or" -> (a != 0) | (b != 0) ? 1 : 0;
      case "and" -> (a != 0) & (b != 0) ? 1 : 0;
      case "=" -> a == b ? 1 : 0;
      case "<" -> a < b ? 1 : 0;
      case ">" -> a > b ? 1 : 0;
      case "+" -> a + b;
      case "-" -> a - b;
      case "*" -> a * b;
      case "/" -> b == 0 ? 0 : a / b;
      default -> b == 0 ? 0 : a % b;
    };
  }
}
