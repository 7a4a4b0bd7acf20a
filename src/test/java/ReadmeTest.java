import java.io.IOException;
import java.lang.reflect.Method;
import java.lang.reflect.Modifier;
import java.nio.file.Files;
import java.nio.file.Path;
import java.nio.file.StandardCopyOption;
import java.util.ArrayList;
import java.util.List;
import java.util.Set;
import java.util.TreeSet;
import java.util.regex.Matcher;
import java.util.regex.Pattern;

/** What README.md shows: its program prints what stands there, its pieces answer what their comments say. */
public final class ReadmeTest {
  private static final Path PLACE = Path.of("build/readme");
  private static final String CLASS = "src/main/java/LoanPence.java";
  private static final Pattern BLOCK = Pattern.compile("(?ms)^```(\\w+)\\n(.*?)^```$");
  private static final Pattern PROGRAM = Pattern.compile("public class (\\w+) ");
  /** A call, then the answer: a number, perhaps its name, perhaps more words. */
  private static final Pattern ANSWERED =
      Pattern.compile("(\\w+\\.(\\w+)\\(.*\\));\\s*// (-?\\d+)(?: \\(([A-Z]+)\\))?(?:: .*)?");
  private static final Pattern CONSTANT = Pattern.compile("(?m)^\\| `([A-Z]+)` \\| (-\\d) \\|");

  private record Block(String kind, String text) {
  }

  public static void main(String[] args) throws Exception {
    Due due = new Due("ReadmeTest");
    String readme = Files.readString(Path.of("README.md"));
    List<Block> blocks = blocksOf(readme);
    Path copy = PLACE.resolve(CLASS);
    Files.createDirectories(copy.getParent());
    Files.copy(Path.of(CLASS), copy, StandardCopyOption.REPLACE_EXISTING);
    lookAtPrograms(due, blocks);
    lookAtPieces(due, blocks);
    lookAtConstants(due, readme);
    due.end();
  }

  private static List<Block> blocksOf(String readme) {
    List<Block> blocks = new ArrayList<>();
    Matcher m = BLOCK.matcher(readme);
    while (m.find()) {
      blocks.add(new Block(m.group(1), m.group(2)));
    }
    return blocks;
  }

  private static boolean isProgram(Block block) {
    return block.kind().equals("java") && PROGRAM.matcher(block.text()).find();
  }

  /** Behind a program stand the commands that run it and what they print. */
  private static void lookAtPrograms(Due due, List<Block> blocks) throws Exception {
    int programs = 0;
    for (int i = 0; i < blocks.size(); i++) {
      if (isProgram(blocks.get(i))) {
        programs++;
        boolean told = i + 2 < blocks.size() && blocks.get(i + 1).kind().equals("sh")
            && blocks.get(i + 2).kind().equals("text");
        due.holds("a program's commands and what they print stand behind it", told);
        if (told) {
          Matcher name = PROGRAM.matcher(blocks.get(i).text());
          name.find();
          Files.writeString(PLACE.resolve(name.group(1) + ".java"), blocks.get(i).text());
          String printed = printedBy(due, blocks.get(i + 1).text());
          due.holds("the program prints " + printed, printed.equals(blocks.get(i + 2).text()));
        }
      }
    }
    due.holds("a program is shown", programs > 0);
  }

  private static void lookAtPieces(Due due, List<Block> blocks) throws Exception {
    StringBuilder methods = new StringBuilder();
    StringBuilder calls = new StringBuilder();
    Set<String> shown = new TreeSet<>();
    int pieces = 0;
    for (Block block : blocks) {
      if (block.kind().equals("java") && !isProgram(block)) {
        methods.append("static void piece").append(pieces).append("() {\n")
            .append(checked(due, block.text(), shown)).append("}\n");
        calls.append("piece").append(pieces).append("();\n");
        pieces++;
      }
    }
    due.holds("pieces are shown", pieces > 0);
    due.holds("every call is shown with an answer, these are: " + shown, shown.containsAll(callsOfTheFace()));
    Files.writeString(PLACE.resolve("Pieces.java"), "final class Pieces {\n"
        + "static void is(String line, long got, long told) {\n"
        + "if (got != told) { System.out.println(line + \" answered \" + got); }\n}\n"
        + methods + "public static void main(String[] args) {\n" + calls + "}\n}\n");
    String wrong = printedBy(due, "javac -Xlint:all -Werror -d build/pieces " + CLASS + " Pieces.java"
        + " && java -cp build/pieces Pieces");
    due.is("README.md: " + wrong, wrong.length(), 0);
  }

  /** The piece, where each call with an answer in its comment is held against it. */
  private static String checked(Due due, String piece, Set<String> shown) throws Exception {
    StringBuilder text = new StringBuilder();
    for (String line : piece.lines().toList()) {
      Matcher m = ANSWERED.matcher(line);
      if (m.matches()) {
        shown.add(m.group(2));
        text.append("is(\"").append(m.group(1).replace("\\", "\\\\").replace("\"", "\\\"")).append("\", ")
            .append(m.group(1)).append(", ").append(m.group(3)).append("L);\n");
        if (m.group(4) != null) {
          due.is("README.md: " + line, constant(m.group(4)), Long.parseLong(m.group(3)));
        }
      } else {
        due.holds("a comment tells no answer: " + line, !line.contains("//"));
        text.append(line).append('\n');
      }
    }
    return text.toString();
  }

  private static int constant(String name) throws Exception {
    return LoanPence.class.getField(name).getInt(null);
  }

  private static Set<String> callsOfTheFace() {
    Set<String> names = new TreeSet<>();
    for (Method m : LoanPence.class.getDeclaredMethods()) {
      if (Modifier.isPublic(m.getModifiers())) {
        names.add(m.getName());
      }
    }
    return names;
  }

  private static void lookAtConstants(Due due, String readme) throws Exception {
    int many = 0;
    Matcher m = CONSTANT.matcher(readme);
    while (m.find()) {
      many++;
      due.is("README.md: " + m.group(1), constant(m.group(1)), Long.parseLong(m.group(2)));
    }
    due.is("refusals in README.md", many, 7);
  }

  /** What commands print that are given beside the program, as a reader of README.md gives them. */
  private static String printedBy(Due due, String commands) throws IOException, InterruptedException {
    Process process = new ProcessBuilder("sh", "-e", "-c", commands)
        .directory(PLACE.toFile()).redirectErrorStream(true).start();
    String printed = new String(process.getInputStream().readAllBytes());
    due.is("exit code of " + commands + printed, process.waitFor(), 0);
    return printed;
  }
}
