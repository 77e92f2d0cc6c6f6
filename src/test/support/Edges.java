import java.io.IOException;
import java.nio.file.Files;
import java.nio.file.Path;
import java.util.Set;
import java.util.TreeSet;

/**
 * Tests of boundary cases, each named by a promise and by the words of the document that it holds to: those stand
 * under the promise or under 'Terms', with " .. " where words are left out. A test extends this to write them plainly.
 */
abstract class Edges {
  private static final Path DOCUMENT = Path.of("../shared/DOC.md");
  private static final Set<Integer> tested = new TreeSet<>();
  private static String document = null;
  private static int tests = 0;
  private static int wrong = 0;

  static void edge(int promise, String words, String script) {
    tests++;
    tested.add(promise);
    String name = "promise " + promise + " (\"" + words + "\")";
    if (Files.exists(DOCUMENT) && !quotes(section("## Promise " + promise + ":"), words)
        && !quotes(section("## Terms"), words)) {
      wrong++;
      System.out.println(name + ": these words are not in the document");
    }
    wrong += Runs.wrongIn(name, script);
  }

  private static String section(String heading) {
    if (document == null) document = read();
    int from = document.indexOf(heading);
    int to = document.indexOf(" ## ", from + 1);
    return from < 0 ? "" : document.substring(from, to < 0 ? document.length() : to);
  }

  private static String read() {
    try {
      return Files.readString(DOCUMENT).replaceAll("\\s+", " ");
    } catch (IOException e) {
      throw new IllegalStateException(e);
    }
  }

  private static boolean quotes(String section, String words) {
    int at = 0;
    for (String part : words.split(" \\.\\. (?=[^0-9])")) {
      at = section.indexOf(part, at);
      if (at < 0) return false;
      at += part.length();
    }
    return true;
  }

  /** Ends the program with 1 if something is wrong, or a promise from the first to the last has no test. */
  static void end(int first, int last) {
    for (int p = first; p <= last; p++) {
      if (!tested.contains(p)) {
        wrong++;
        System.out.println("promise " + p + " has no test of a boundary case");
      }
    }
    System.out.println(tests + " boundary cases, " + Runs.answersSoFar() + " answers, " + wrong + " not as due");
    if (wrong != 0) System.exit(1);
  }

  /** The text once for each number, which stands where '@' stands. */
  static String each(int from, int to, String text) {
    StringBuilder all = new StringBuilder();
    for (int k = from; k <= to; k++) all.append(text.replace("@", String.valueOf(k))).append("\n");
    return all.toString();
  }
}
