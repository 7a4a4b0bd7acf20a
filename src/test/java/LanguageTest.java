import java.io.IOException;
import java.nio.file.Files;
import java.nio.file.Path;
import java.util.List;
import java.util.regex.Matcher;
import java.util.regex.Pattern;

/** Rules of LANGUAGE.md that can be seen in the text of the class. */
public final class LanguageTest {
  private static final String[] RULED_OUT = {"throw", "throws", "try", "catch", "finally", "synchronized", "assert",
    "volatile", "transient", "native", "goto", "Object", "Thread", "System.out", "System.err", "Random", "Exact",
    "hashCode", "toString", "protected", "package", "Class", "Override", "SuppressWarnings", "Runtime"};

  public static void main(String[] args) throws IOException {
    Due due = new Due("LanguageTest");
    String text = Files.readString(Path.of("src/main/java/LoanPence.java"));
    due.holds("signs are 1 to 127 alone", text.chars().allMatch(c -> c >= 1 && c <= 127));
    String code = withoutTexts(text);
    for (String word : RULED_OUT) {
      due.holds("no " + word, !Pattern.compile("\\b" + Pattern.quote(word) + "\\b").matcher(code).find());
    }
    due.holds("no lambda", !code.contains("->"));
    due.holds("no method reference", !code.contains("::"));
    due.holds("no texts joined by +", !code.contains("\"\" +") && !code.contains("+ \"\""));
    due.holds("no static block", !Pattern.compile("\\bstatic\\s*\\{").matcher(code).find());
    Matcher imports = Pattern.compile("(?m)^import (.*);").matcher(code);
    while (imports.find()) {
      due.is("import " + imports.group(1), imports.group(1).equals("java.util.Arrays") ? 1 : 0, 1);
    }
    lookAtMethods(due, code);
    lookAtStatics(due, code);
    due.end();
  }

  /** Comments go, and what stands in texts and signs: the quotes stay. */
  private static String withoutTexts(String text) {
    return text.replaceAll("(?s)/\\*.*?\\*/", "").replaceAll("//[^\n]*", "")
        .replaceAll("\"[^\"\n]*\"", "\"\"").replaceAll("'[^'\n]'", "' '");
  }

  private static void lookAtMethods(Due due, String code) {
    List<String> lines = code.lines().toList();
    Pattern head = Pattern.compile("^( {4}| {8})(?:(?:public|private|static|final) )*[\\w\\[\\]]+ (\\w+)\\(.*\\{$");
    int methods = 0;
    for (int i = 0; i < lines.size(); i++) {
      Matcher m = head.matcher(lines.get(i));
      if (m.find()) {
        int end = i;
        while (!lines.get(end).equals(m.group(1) + "}")) {
          end++;
        }
        methods++;
        due.holds(m.group(2) + " has " + (end - i + 1) + " lines", end - i + 1 <= 60);
      }
    }
    due.holds("methods were found", methods > 100);
  }

  private static void lookAtStatics(Due due, String code) {
    Matcher statics = Pattern.compile("(?m)^ *(public|private)? ?static ([^(\n]*?)(=|;)").matcher(code);
    int many = 0;
    while (statics.find()) {
      many++;
      due.holds("static " + statics.group(2) + "is final", statics.group(2).startsWith("final "));
      due.holds("static " + statics.group(2) + "is of a type that may be",
          statics.group(2).matches("final (int|long|boolean|char|String|int\\[\\]) \\w+ "));
    }
    due.holds("constants were found", many > 50);
  }
}
