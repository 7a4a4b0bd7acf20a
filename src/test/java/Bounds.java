import java.util.ArrayList;
import java.util.List;

/**
 * Rows of calls on one object, each row with the answer that is due, under the
 * sentence of the document that they stand on both sides of.
 *
 * <p>A row is "name(1, 2) = 3". One that is refused is "name(1, 2) = NO", or
 * "= 0 NO" if the call answers 0 then, or "= FAULT 4" for a RULE. Whatever is
 * refused is held against a twin that was spared the call: nothing but status()
 * may be another one. Rows without an answer set the land: "name(1, 2)", "7 *
 * name(1, 2)" seven times, and "tape who 1 " feeds that text, its last blank too.
 * Rows may stand in one text, with ; between them.
 */
final class Bounds {
  private static final List<String> REFUSALS =
      List.of("MISSING", "BEYOND", "BELOW", "KIND", "COPY", "NO", "FULL");
  private static final int NO_REFUSAL = 0;

  private record Row(Call call, boolean isAnswered, long answer, boolean isRefused, int by) {
  }

  private final Due due;

  Bounds(Due due) {
    this.due = due;
  }

  /** The sentence begins with the number of its promise. */
  void hold(String numbered, String... texts) {
    String sentence = "promise " + numbered;
    List<Row> rows = rowsOf(texts);
    int[] refused = new int[9];
    LoanPence x = new LoanPence();
    due.holds(sentence + ": has too many calls", rows.size() + 7 <= Call.MOST);
    for (int i = 0; i < rows.size(); i++) {
      Row row = rows.get(i);
      long got = row.call().ask(x);
      String text = sentence + ": " + row.call().text();
      if (row.isAnswered()) {
        due.is(text, got, row.answer());
      } else if (row.call().name().equals("rule")) {
        due.holds(text + " is no RULE: " + got, got >= 0);
      }
      refused[-row.by()]++;
      if (row.isRefused()) {
        holdAgainstTwin(text, rows, i);
      }
    }
    for (int by = -8; by <= -2; by++) {
      due.is(sentence + ": status(" + by + ") in the end", x.status(by), refused[-by]);
    }
  }

  /** Two ways that lead to lands of which all that can be asked is alike, but for status(). */
  void alike(String numbered, String one, String other) {
    List<Row> ofOne = rowsOf(new String[] {one});
    List<Row> ofOther = rowsOf(new String[] {other});
    holdAlike("promise " + numbered, callsOf(ofOne, ofOne.size()), callsOf(ofOther, ofOther.size()));
  }

  /** A text for each number below n, put in for the sign #. */
  static String each(int n, String text) {
    StringBuilder all = new StringBuilder();
    for (int i = 0; i < n; i++) {
      all.append(text.replace("#", String.valueOf(i))).append(';');
    }
    return all.toString();
  }

  /** A text for each number, put in for the sign #. */
  static String eachOf(String text, int... numbers) {
    StringBuilder all = new StringBuilder();
    for (int number : numbers) {
      all.append(text.replace("#", String.valueOf(number))).append(';');
    }
    return all.toString();
  }

  // ---- rows as they are written

  private static List<Row> rowsOf(String[] texts) {
    List<Row> rows = new ArrayList<>();
    for (String text : texts) {
      for (String one : text.split("[;\n]")) {
        if (!one.isBlank()) {
          addRows(rows, one.stripLeading());
        }
      }
    }
    return rows;
  }

  private static void addRows(List<Row> rows, String text) {
    if (text.startsWith("tape ")) {
      feeds(text.substring(5)).forEach(call -> rows.add(setting(call)));
      return;
    }
    int answer = text.indexOf(" = ");
    if (answer >= 0) {
      rows.add(answered(Call.of(text.substring(0, answer)), text.substring(answer + 3).trim().split(" ")));
      return;
    }
    int times = text.indexOf(" * ");
    Call call = Call.of((times < 0 ? text : text.substring(times + 3)).trim());
    for (int i = times < 0 ? 1 : Integer.parseInt(text.substring(0, times)); i > 0; i--) {
      rows.add(setting(call));
    }
  }

  private static Row setting(Call call) {
    return new Row(call, false, 0, false, NO_REFUSAL);
  }

  private static Row answered(Call call, String[] words) {
    String last = words[words.length - 1];
    if (words[0].equals("FAULT")) {
      return new Row(call, true, -10 - Long.parseLong(last), true, NO_REFUSAL);
    }
    int by = -2 - REFUSALS.indexOf(last);
    if (by == -1) {
      return new Row(call, true, last.equals("NONE") ? -1 : Long.parseLong(last), false, NO_REFUSAL);
    }
    return new Row(call, true, words.length == 1 ? by : Long.parseLong(words[0]), true, by);
  }

  /** Four bytes a call, so that long tapes leave room for other calls. */
  private static List<Call> feeds(String text) {
    List<Call> calls = new ArrayList<>();
    for (int i = 0; i < text.length(); i += 4) {
      int n = Math.min(4, text.length() - i);
      int bytes = 0;
      for (int k = 0; k < n; k++) {
        bytes = bytes << 8 | text.charAt(i + k);
      }
      calls.add(new Call("feed", bytes, n));
    }
    return calls;
  }

  // ---- twins

  private static List<Call> callsOf(List<Row> rows, int many) {
    List<Call> calls = new ArrayList<>();
    for (Row row : rows.subList(0, many)) {
      calls.add(row.call());
    }
    return calls;
  }

  private static List<Call> with(List<Call> calls, List<Call> more) {
    List<Call> all = new ArrayList<>(calls);
    all.addAll(more);
    return all;
  }

  private static LoanPence after(List<Call> calls) {
    LoanPence x = new LoanPence();
    calls.forEach(call -> call.ask(x));
    return x;
  }

  private void holdAgainstTwin(String text, List<Row> rows, int at) {
    Row row = rows.get(at);
    List<Call> spared = callsOf(rows, at);
    List<Call> refused = callsOf(rows, at + 1);
    LoanPence x = after(spared);
    LoanPence y = after(refused);
    for (int by = -8; by <= -2; by++) {
      due.is(text + ", status(" + by + ")", y.status(by), x.status(by) + (by == row.by() ? 1 : 0));
    }
    holdAlike(text + " refused", spared, refused);
    if (spared.stream().anyMatch(call -> call.name().equals("image"))) {
      List<Call> back = List.of(new Call("back"));
      holdAlike(text + " refused, then back()", with(spared, back), with(refused, back));
    }
  }

  private void holdAlike(String text, List<Call> one, List<Call> other) {
    lookAtBoth(text, one, other, Sight.of(after(one)));
    for (Sight.Deed deed : Sight.deeds(after(one).count(0))) {
      Call done = deed.done();
      due.is(text + ", then " + done.text(), done.ask(after(other)), done.ask(after(one)));
      lookAtBoth(text + ", then " + done.text(), with(one, List.of(done)), with(other, List.of(done)), deed.asked());
    }
  }

  /** Asks as much of one pair of twins as they may be asked, then makes the next pair. */
  private void lookAtBoth(String text, List<Call> one, List<Call> other, List<Call> asked) {
    int room = Call.MOST - Math.max(one.size(), other.size());
    due.holds(text + " leaves no room to look", room > 0);
    for (int from = 0; room > 0 && from < asked.size(); from += room) {
      LoanPence x = after(one);
      LoanPence y = after(other);
      for (Call call : asked.subList(from, Math.min(asked.size(), from + room))) {
        due.is(text + ", then " + call.text(), call.ask(y), call.ask(x));
      }
    }
  }
}
