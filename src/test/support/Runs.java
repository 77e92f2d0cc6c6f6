import java.util.ArrayList;
import java.util.List;

/**
 * Runs of calls on a new object, written as text with the answers that are due: "pipe(5) = 0; write(1, 2) = 2".
 * True is 1, false is 0; '#' begins a remark. A '!' behind an answer says that the call does nothing: whatever is asked
 * or done next goes as it would have gone without that call.
 */
final class Runs {
  /** What later calls answer is free. */
  static final int MOST_CALLS = 512;
  /** Done ahead of the questions, so that what no question tells of (programs, boxes, what UNDO keeps) is seen too. */
  private static final String[] LATER = {"", "undo()", "redo()", "back(0)", "back(1)", "rounds(4)", "tick(100)"};
  private static int answers = 0;

  private Runs() {
  }

  static int answersSoFar() {
    return answers;
  }

  /** How many answers are not as due. */
  static int wrongIn(String name, String script) {
    ReadyBell x = new ReadyBell();
    List<Call> before = new ArrayList<>();
    int wrong = 0;
    for (String row : script.replaceAll("#.*", "").split("[;\n]")) {
      if (row.isBlank()) continue;
      String[] sides = row.split("=");
      boolean idle = sides[1].contains("!");
      long due = Long.parseLong(sides[1].replace('!', ' ').trim());
      Call call = Call.of(sides[0].trim());
      long got = call.answer(x);
      answers++;
      String fault = got != due ? "answered " + got + ", due is " + due : idle ? whatDid(before, call) : null;
      if (fault != null) {
        wrong++;
        System.out.println(name + ", call " + (before.size() + 1) + ": " + call.text + " " + fault);
      }
      before.add(call);
    }
    if (before.size() > MOST_CALLS) throw new IllegalArgumentException("a run of more than 512 calls: " + name);
    return wrong;
  }

  /** What a call did that should do nothing; null if it did nothing. */
  private static String whatDid(List<Call> before, Call idle) {
    for (String later : LATER) {
      List<Call> without = new ArrayList<>(before);
      List<Call> with = new ArrayList<>(before);
      with.add(idle);
      if (!later.isEmpty()) {
        without.add(Call.of(later));
        with.add(Call.of(later));
      }
      List<Call> questions = questions(without);
      List<Long> due = answers(without, questions);
      List<Long> got = answers(with, questions);
      for (int k = 0; k < due.size(); k++) {
        if (!due.get(k).equals(got.get(k))) {
          return "did something: behind it" + (later.isEmpty() ? "" : " and " + later) + ", " + questions.get(k).text
              + " answers " + got.get(k) + ", without it " + due.get(k);
        }
      }
    }
    return null;
  }

  /** Asked of as many objects as it takes to stay within the calls that are promised. */
  private static List<Long> answers(List<Call> run, List<Call> questions) {
    List<Long> all = new ArrayList<>();
    ReadyBell x = null;
    int left = 0;
    for (Call q : questions) {
      if (left == 0) {
        x = behind(run);
        left = MOST_CALLS - run.size();
        if (left <= 0) throw new IllegalArgumentException("no calls are left for a question");
      }
      all.add(q.answer(x));
      left--;
    }
    return all;
  }

  private static ReadyBell behind(List<Call> run) {
    ReadyBell x = new ReadyBell();
    for (Call c : run) c.answer(x);
    return x;
  }

  /** All questions about what is there behind a run. */
  private static List<Call> questions(List<Call> run) {
    List<Call> all = new ArrayList<>();
    ask(all, "about", 7);
    ask(all, "stuck");
    ask(all, "task", 6, 10);
    ask(all, "got", 6, 8, 2);
    ask(all, "orders", 6, 6, 5);
    ReadyBell x = behind(run);
    for (int h = 0; h < 16; h++) {
      all.add(Call.of("handle(" + h + ", 0)"));
      int kind = x.handle(h, 0);
      if (kind < 0) continue;
      for (int what = 1; what < 6; what++) all.add(Call.of("handle(" + h + ", " + what + ")"));
      for (String name : new String[] {"other", "wakes"}) all.add(Call.of(name + "(" + h + ")"));
      for (int bit = 1; bit < 16; bit *= 2) all.add(Call.of("calls(" + h + ", " + bit + ")"));
      if (kind == 4) askSet(all, h, x.handle(h, 1), x.handle(h, 5));
    }
    return all;
  }

  private static void askSet(List<Call> all, int h, int interests, int sleepers) {
    for (String name : new String[] {"listed", "shows", "depth", "soon"}) all.add(Call.of(name + "(" + h + ")"));
    for (int k = 0; k <= interests; k++) {
      all.add(Call.of("shown(" + h + ", " + k + ")"));
      for (int what = 0; what < 10; what++) all.add(Call.of("interest(" + h + ", " + k + ", " + what + ")"));
    }
    for (int k = 0; k <= sleepers; k++) all.add(Call.of("sleeper(" + h + ", " + k + ")"));
  }

  /** A call with all arguments from 0 up to below the bounds. */
  private static void ask(List<Call> all, String name, int... bounds) {
    int many = 1;
    for (int b : bounds) many *= b;
    for (int k = 0; k < many; k++) {
      StringBuilder given = new StringBuilder();
      int rest = k;
      for (int b : bounds) {
        given.append(given.length() == 0 ? "" : ", ").append(rest % b);
        rest /= b;
      }
      all.add(Call.of(name + "(" + given + ")"));
    }
  }
}
