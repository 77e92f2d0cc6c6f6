import java.io.IOException;
import java.lang.reflect.Method;
import java.lang.reflect.Modifier;
import java.nio.file.Files;
import java.nio.file.Path;
import java.util.HashMap;
import java.util.Map;
import java.util.regex.Matcher;
import java.util.regex.Pattern;

/** README.md says how to use the class: its examples answer as is written behind them, and every call is named. */
public final class ReadmeTest {
  private static final Pattern BLOCK = Pattern.compile("```java\n(.*?)```", Pattern.DOTALL);
  private static final Pattern ROW =
      Pattern.compile("(?:int (\\w+) = )?bell\\.(\\w+)\\((.*)\\);\\s*// (-?\\d+|true|false)(?![\\w]).*");
  private static int rows = 0;
  private static int wrong = 0;

  private static void fault(String what) {
    wrong++;
    System.out.println("README.md: " + what);
  }

  public static void main(String[] args) throws IOException {
    String text = Files.readString(Path.of("README.md")).replace("\r\n", "\n");
    Matcher block = BLOCK.matcher(text);
    int blocks = 0;
    while (block.find()) {
      blocks++;
      runBlock(block.group(1));
    }
    if (blocks == 0) fault("there is no example");
    for (Method m : ReadyBell.class.getDeclaredMethods()) {
      if (Modifier.isPublic(m.getModifiers()) && !text.contains("`" + m.getName() + "`")) fault(m.getName() + " is not named");
    }
    System.out.println(blocks + " examples, " + rows + " answers, " + wrong + " not as due");
    if (wrong != 0) System.exit(1);
  }

  private static void runBlock(String block) {
    ReadyBell x = null;
    Map<String, Long> known = new HashMap<>();
    for (String line : block.split("\n")) {
      if (line.isBlank()) continue;
      if (line.equals("ReadyBell bell = new ReadyBell();")) {
        x = new ReadyBell();
        continue;
      }
      Matcher row = ROW.matcher(line);
      if (x == null || !row.matches()) {
        fault("a line that can't be run: " + line);
        continue;
      }
      rows++;
      long got = Call.of(row.group(2) + "(" + numbers(row.group(3), known) + ")").answer(x);
      if (got != due(row.group(4))) fault(line + " answered " + got);
      if (row.group(1) != null) known.put(row.group(1), got);
    }
  }

  private static long due(String written) {
    return written.equals("true") ? 1 : written.equals("false") ? 0 : Long.parseLong(written);
  }

  private static String numbers(String given, Map<String, Long> known) {
    StringBuilder all = new StringBuilder();
    for (String part : given.split(",")) {
      Long value = known.get(part.trim());
      all.append(all.length() == 0 ? "" : ", ").append(value == null ? part.trim() : value.toString());
    }
    return all.toString();
  }
}
