/** Boundary cases of the promises 15 to 30: interests, lists, sleepers, and what is told of them. */
public final class BoundarySetsTest extends Edges {
  public static void main(String[] args) {
    adding();
    addingWhatCantBe();
    addingTwice();
    setsInSets();
    twentyFour();
    changing();
    changingWhatCantBe();
    dropping();
    notices();
    alone();
    collecting();
    collectingWhatCantBe();
    awaiting();
    waking();
    askingHandles();
    askingInterests();
    askingSets();
    askingTasks();
    askingWhatWasGot();
    askingWhoWakes();
    end(15, 30);
  }

  private static void adding() {
    edge(15, "with a MASK (of IN, OUT; 0 .. 3)", """
        counter(5, true) = 0; set() = 1; set() = 2; set() = 3; set() = 4; add(1, 0, 0, 0) = 1; add(2, 0, 1, 0) = 1
        add(3, 0, 2, 0) = 1; add(4, 0, 3, 0) = 1; listed(1) = 0; collect(0, 1, 1) = 0; collect(0, 2, 1) = 1
        got(0, 0, 1) = 1; collect(0, 3, 1) = 1; got(0, 0, 1) = 2; collect(0, 4, 1) = 1; got(0, 0, 1) = 3
        """);
    edge(15, "by bits EDGE (1), ONCE (2), ALONE (4); it is armed, at first", "counter(5, true) = 0; set() = 1\n"
        + each(2, 9, "twin(0) = @") + """
        add(1, 2, 1, 0) = 1; add(1, 3, 1, 1) = 2; add(1, 4, 1, 2) = 3; add(1, 5, 1, 3) = 4; add(1, 6, 1, 4) = 5
        add(1, 7, 1, 5) = 6; add(1, 8, 1, 6) = 7; add(1, 9, 1, 7) = 8
        """ + each(0, 7, "interest(1, @, 2) = @; interest(1, @, 3) = 1") + "collect(0, 1, 8) = 8; listed(1) = 2\n"
        + "shown(1, 0) = 2; shown(1, 1) = 6\n" // EDGE and ONCE are not LISTED again, ONCE is armed no more
        + each(0, 1, "interest(1, @, 3) = 1") + each(2, 3, "interest(1, @, 3) = 0")
        + each(4, 5, "interest(1, @, 3) = 1") + each(6, 7, "interest(1, @, 3) = 0"));
    edge(15, "Its bits are those of its MASK, ENDED and BROKEN.", """
        pipe(5) = 0; pipe(5) = 2; set() = 4; add(4, 0, 0, 0) = 1; add(4, 3, 0, 0) = 2; write(1, 1) = 1; listed(4) = 0
        close(1) = 1; close(2) = 1; listed(4) = 2; collect(0, 4, 8) = 2; got(0, 0, 0) = 0; got(0, 0, 1) = 4
        got(0, 1, 0) = 3; got(0, 1, 1) = 8; change(4, 0, 1, 0) = 1; collect(0, 4, 8) = 2; got(0, 0, 1) = 5
        """);
    edge(15, "if it is TRUE, it is LISTED, and the SET is CALLED: how many the SET holds", """
        set() = 0; set() = 1; counter(0, true) = 2; counter(1, true) = 3; add(1, 0, 1, 0) = 1; await(0, 0, 1, 0) = -2
        await(1, 1, 1, 0) = -2; add(0, 2, 1, 0) = 1; about(3) = 3; task(0, 5) = 0; listed(0) = 0; task(1, 5) = 0
        add(0, 3, 1, 0) = 2; about(3) = 0; got(0, 0, 0) = 3; got(1, 0, 0) = 0; listed(0) = 1; interest(0, 1, 7) = 0
        interest(1, 0, 7) = 1
        """);
    edge(15, "and the SET is CALLED", """
        set() = 0; set() = 1; set() = 2; counter(1, true) = 3; add(0, 2, 0, 0) = 1; add(1, 2, 2, 0) = 1
        add(2, 3, 1, 0) = 1; interest(0, 0, 7) = 0; interest(1, 0, 7) = 0; listed(0) = 0; listed(1) = 0   # IN, no more
        """);
    edge(15, "in the order in which they were added", """
        set() = 0; counter(0, true) = 1; counter(0, true) = 2; counter(0, true) = 3; add(0, 3, 1, 0) = 1
        add(0, 1, 1, 0) = 2; add(0, 2, 1, 0) = 3; interest(0, 0, 0) = 3; interest(0, 1, 0) = 1; interest(0, 2, 0) = 2
        drop(0, 1) = 1; add(0, 1, 1, 0) = 3; interest(0, 1, 0) = 2; interest(0, 2, 0) = 1
        """);
  }

  private static void addingWhatCantBe() {
    edge(15, "NONE, doing nothing, if a HANDLE is not there", """
        set() = 0; counter(1, true) = 1; set() = 2; undo() = 1; add(0, 2, 1, 0) = -1 !; add(0, 15, 1, 0) = -1 !
        add(0, 16, 1, 0) = -1 !; add(0, -1, 1, 0) = -1 !; add(0, MAX, 1, 0) = -1 !; add(0, MIN, 1, 0) = -1 !
        add(2, 1, 1, 0) = -1 !; add(15, 1, 1, 0) = -1 !; add(16, 1, 1, 0) = -1 !; add(-1, 1, 1, 0) = -1 !
        add(MAX, 1, 1, 0) = -1 !; add(MIN, 1, 1, 0) = -1 !
        """);
    edge(15, "NONE, doing nothing, .. the first one names no SET", """
        pipe(5) = 0; counter(5, true) = 2; timer() = 3; set() = 4; listener(5, 5) = 5; add(0, 2, 1, 0) = -1 !
        add(1, 2, 1, 0) = -1 !; add(2, 4, 1, 0) = -1 !; add(3, 2, 1, 0) = -1 !; add(5, 2, 1, 0) = -1 !
        add(4, 0, 1, 0) = 1; add(4, 1, 1, 0) = 2; add(4, 2, 1, 0) = 3; add(4, 3, 1, 0) = 4; add(4, 5, 1, 0) = 5
        """);
    edge(15, "NONE, doing nothing, .. both name the same", """
        set() = 0; twin(0) = 1; add(0, 0, 1, 0) = -1 !; add(0, 1, 1, 0) = -1 !; add(1, 0, 1, 0) = -1 !
        """);
    edge(15, "NONE, doing nothing, .. or a MASK, bits can't be", """
        set() = 0; counter(1, true) = 1; set() = 2; undo() = 1; add(0, 1, -1, 0) = -1 !; add(0, 1, 4, 0) = -1 !
        add(0, 1, 8, 0) = -1 !; add(0, 1, MAX, 0) = -1 !; add(0, 1, MIN, 0) = -1 !; add(0, 1, 1, -1) = -1 !
        add(0, 1, 1, 8) = -1 !; add(0, 1, 1, MAX) = -1 !; add(0, 1, 1, MIN) = -1 !; add(0, 1, 3, 7) = 1
        """);
    edge(15, "or a MASK, bits can't be; else -2", """
        set() = 0; set() = 1; set() = 2; set() = 3; add(0, 1, 1, 0) = 1; add(0, 1, 4, 0) = -1; add(0, 1, 1, 8) = -1
        add(1, 0, 4, 0) = -1; add(1, 0, 1, 8) = -1; add(1, 2, 1, 0) = 1; add(2, 3, 4, 0) = -1; add(2, 3, 1, -1) = -1
        """);
  }

  private static void addingTwice() {
    edge(15, "else -2, if it holds one by that HANDLE's number in that OBJECT", """
        set() = 0; counter(1, true) = 1; twin(0) = 2; add(0, 1, 1, 0) = 1; set() = 3; undo() = 1; add(0, 1, 1, 0) = -2 !
        add(0, 1, 0, 7) = -2 !; add(2, 1, 1, 0) = -2 !; interest(0, 0, 2) = 0; set() = 3; add(3, 1, 1, 0) = 1
        """);
    edge(15, "by that HANDLE's number in that OBJECT", """
        set() = 0; counter(1, true) = 1; twin(1) = 2; twin(1) = 3; add(0, 2, 1, 0) = 1; change(0, 1, 1, 0) = 0 !
        change(0, 3, 1, 0) = 0 !; drop(0, 1) = 0 !; drop(0, 3) = 0 !; add(0, 1, 1, 0) = 2; add(0, 3, 1, 0) = 3
        drop(0, 2) = 1; interest(0, 0, 0) = 1; interest(0, 1, 0) = 3
        """);
    edge(15, "else -2, if it holds one by that HANDLE's number in that OBJECT", """
        set() = 0; set() = 1; counter(1, true) = 2; add(1, 2, 1, 0) = 1; change(0, 2, 1, 0) = 0 !; drop(0, 2) = 0 !
        add(0, 2, 1, 0) = 1; add(1, 2, 1, 0) = -2 !; add(0, 2, 1, 0) = -2 !; about(1) = 2
        """);
    edge(15, "else -2, if it holds one by that HANDLE's number in that OBJECT", """
        set() = 0; counter(1, true) = 1; twin(1) = 2; add(0, 1, 1, 0) = 1; add(0, 2, 1, 0) = 2  # another number
        close(1) = 1; counter(1, true) = 1; add(0, 1, 1, 0) = 3                                 # another OBJECT
        add(0, 1, 1, 0) = -2 !; close(1) = 1; about(1) = 2; twin(2) = 1; add(0, 1, 1, 0) = -2 !
        """);
  }

  private static void setsInSets() {
    edge(15, "else -3, if a SET would stand in itself", """
        set() = 0; set() = 1; set() = 2; twin(0) = 3; add(0, 1, 1, 0) = 1; add(1, 0, 1, 0) = -3 !; add(1, 3, 1, 0) = -3 !
        add(1, 2, 1, 0) = 1; add(2, 0, 1, 0) = -3 !; add(2, 1, 1, 0) = -3 !; add(2, 3, 0, 0) = -3 !; drop(0, 1) = 1
        add(2, 0, 1, 0) = 1; add(0, 1, 1, 0) = -3 !; depth(1) = 3
        """);
    edge(15, "or more than three deep", """
        set() = 0; set() = 1; set() = 2; set() = 3; add(0, 1, 1, 0) = 1; add(1, 2, 1, 0) = 1; depth(0) = 3
        add(2, 3, 1, 0) = -3 !; add(3, 0, 1, 0) = -3 !   # below, above
        add(3, 1, 1, 0) = 1; add(3, 2, 1, 0) = 2; add(0, 2, 1, 0) = 2; depth(3) = 3
        """);
    edge(15, "or more than three deep", """
        set() = 0; set() = 1; set() = 2; set() = 3; add(0, 1, 1, 0) = 1; add(2, 3, 1, 0) = 1; add(1, 2, 1, 0) = -3 !
        add(3, 0, 1, 0) = -3 !; add(0, 2, 1, 0) = 2; depth(0) = 3; drop(2, 3) = 1; add(1, 2, 1, 0) = 1; depth(0) = 3
        """);
    edge(15, "or more than three deep", """
        set() = 0; set() = 1; set() = 2; listener(1, 1) = 3; pipe(1) = 4; counter(1, true) = 6; timer() = 7
        add(0, 1, 1, 0) = 1; add(1, 2, 1, 0) = 1; add(2, 3, 1, 0) = 1; add(2, 4, 1, 0) = 2; add(2, 5, 1, 0) = 3
        add(2, 6, 1, 0) = 4; add(2, 7, 1, 0) = 5; depth(0) = 3; depth(1) = 2; depth(2) = 1   # SETS alone count
        """);
    edge(15, "SETS may stand in one another three deep (a SET with none in it is one deep), none in itself.", """
        set() = 0; set() = 1; set() = 2; counter(1, true) = 3; timer() = 4; add(2, 3, 1, 0) = 1; add(2, 4, 1, 0) = 2
        add(0, 1, 1, 0) = 1; add(1, 2, 1, 0) = 1; add(0, 3, 1, 0) = 2; depth(0) = 3; depth(2) = 1; shows(0) = 2
        handle(0, 2) = 1; read(3, 1) = 1; shows(0) = 0; handle(0, 2) = 0; write(3, 1) = 1; handle(0, 2) = 1
        """);
  }

  private static void twentyFour() {
    StringBuilder adds = new StringBuilder("set() = 0; set() = 1\n" + each(2, 13, "counter(0, true) = @"));
    for (int n = 1; n <= 12; n++) {
      adds.append("add(0, " + (n + 1) + ", 1, 0) = " + n + "; add(1, " + (n + 1) + ", 1, 0) = " + n + "\n");
    }
    String full = adds.toString();
    edge(15, "else -4, if there are 24", full + """
        about(1) = 24; set() = 14; counter(5, true) = 15; add(14, 15, 1, 0) = -4 !; add(0, 15, 1, 0) = -4 !
        add(14, 0, 1, 0) = -4 !; drop(1, 13) = 1; add(14, 15, 1, 0) = 1; about(1) = 24; add(1, 13, 1, 0) = -4 !
        close(2) = 1; about(1) = 22; add(1, 13, 1, 0) = 11
        """);
    edge(16, "false, doing nothing, if there is none such", full + """
        set() = 14; change(0, 14, 2, 1) = 0 !; change(14, 2, 2, 1) = 0 !; drop(0, 14) = 0 !; drop(14, 2) = 0 !
        interest(1, 11, 0) = 13; interest(1, 11, 1) = 1; interest(1, 11, 2) = 0
        """);
    edge(15, "NONE, doing nothing, .. else -2, .. else -3, .. else -4", full + """
        add(0, 2, 4, 0) = -1; add(0, 0, 1, 0) = -1; add(0, 15, 1, 0) = -1; add(0, 2, 1, 0) = -2 !; drop(1, 2) = 1
        add(0, 1, 1, 0) = 13; add(1, 0, 1, 0) = -3 !; add(1, 2, 1, 0) = -4 !
        """);
    edge(15, "A SET holds INTERESTS (in all SETS together at most 24)", full.replace("counter(0,", "counter(1,")
        .replace(", 1, 0)", ", 3, 5)") + each(0, 11, "interest(0, @, 1) = 3; interest(0, @, 2) = 5; interest(1, @, 2) = 5")
        + "collect(0, 1, 8) = 8; collect(1, 1, 8) = 4\n" + each(2, 13, "write(@, 1) = 1") + each(0, 11,
        "interest(1, @, 8) = 1; interest(1, @, 7) = 1; interest(0, @, 7) = 1; interest(0, @, 8) = 0; interest(1, @, 3) = 1"));
    edge(15, "A SET holds INTERESTS (in all SETS together at most 24)", full + each(2, 13, "write(@, 1) = 1")
        + "listed(0) = 12; listed(1) = 12; shown(1, 11) = 13; interest(0, 11, 7) = 1; interest(1, 11, 7) = 1");
  }

  private static void changing() {
    edge(16, "has another MASK, other bits (or the same), and is armed", """
        set() = 0; counter(1, true) = 1; add(0, 1, 1, 2) = 1; collect(0, 0, 1) = 1; interest(0, 0, 3) = 0
        change(0, 1, 1, 2) = 1; interest(0, 0, 3) = 1; interest(0, 0, 1) = 1; interest(0, 0, 2) = 2; listed(0) = 1
        change(0, 1, 0, 0) = 1; interest(0, 0, 1) = 0; interest(0, 0, 2) = 0; change(0, 1, 3, 7) = 1
        interest(0, 0, 1) = 3; interest(0, 0, 2) = 7; about(4) = 7; interest(0, 0, 7) = 0; interest(0, 0, 8) = 1
        """);
    edge(16, "if it is TRUE, it is LISTED (if it is not), and the SET is CALLED: true", """
        set() = 0; counter(1, true) = 1; counter(1, true) = 2; add(0, 1, 1, 1) = 1; add(0, 2, 1, 1) = 2
        collect(0, 0, 1) = 1; interest(0, 1, 9) = 1; interest(0, 0, 4) = -1; change(0, 1, 1, 1) = 1
        interest(0, 0, 4) = 1; change(0, 2, 1, 0) = 1; interest(0, 1, 4) = 0; interest(0, 1, 9) = 1; listed(0) = 2
        """);
    edge(16, "if it is TRUE, it is LISTED (if it is not), and the SET is CALLED: true", """
        set() = 0; set() = 1; counter(1, true) = 2; add(0, 2, 0, 0) = 1; add(1, 0, 1, 0) = 1; await(0, 0, 1, 0) = -2
        await(1, 0, 1, 0) = -2; await(2, 1, 1, 0) = -2; change(0, 2, 0, 1) = 1; about(3) = 7; task(0, 5) = 0
        task(2, 5) = 0; change(0, 2, 1, 0) = 1; about(3) = 2; got(0, 0, 0) = 2; got(2, 0, 0) = 0; listed(0) = 1
        change(0, 2, 1, 0) = 1; about(3) = 0; got(1, 0, 0) = 2; interest(0, 0, 7) = 0; interest(1, 0, 7) = 2
        """);
    edge(16, "if it is TRUE", """
        set() = 0; counter(1, true) = 1; add(0, 1, 1, 0) = 1; change(0, 1, 0, 0) = 1; listed(0) = 1; shows(0) = 0
        collect(0, 0, 1) = 0; listed(0) = 0; change(0, 1, 0, 1) = 1; listed(0) = 0
        """);
  }

  private static void changingWhatCantBe() {
    edge(16, "false, doing nothing, if there is none such", """
        set() = 0; counter(1, true) = 1; set() = 2; add(0, 1, 1, 2) = 1; collect(0, 0, 1) = 1; twin(1) = 3; set() = 4
        undo() = 1; change(0, 2, 1, 0) = 0 !; change(0, 3, 1, 0) = 0 !; change(2, 1, 1, 0) = 0 !
        change(1, 1, 1, 0) = 0 !; change(0, 0, 1, 0) = 0 !; change(0, 4, 1, 0) = 0 !; change(4, 1, 1, 0) = 0 !
        change(16, 1, 1, 0) = 0 !; change(-1, 1, 1, 0) = 0 !; change(0, 16, 1, 0) = 0 !; change(0, -1, 1, 0) = 0 !
        change(MAX, 1, 1, 0) = 0 !; change(0, MIN, 1, 0) = 0 !
        """);
    edge(16, "by that HANDLE's number in the OBJECT it names now", """
        set() = 0; counter(1, true) = 1; add(0, 1, 1, 2) = 1; twin(1) = 2; close(1) = 1; change(0, 1, 1, 0) = 0 !
        counter(1, true) = 1; change(0, 1, 1, 0) = 0 !; add(0, 1, 1, 0) = 2; change(0, 1, 2, 1) = 1
        interest(0, 0, 1) = 1; interest(0, 1, 1) = 2; close(1) = 1; twin(2) = 1; change(0, 1, 3, 4) = 1
        interest(0, 0, 1) = 3; interest(0, 0, 2) = 4
        """);
    edge(16, "in the OBJECT it names now", """
        set() = 0; timer() = 1; counter(1, true) = 2; add(0, 2, 1, 0) = 1; twin(2) = 3; close(2) = 1; close(1) = 1
        twin(0) = 1; counter(0, true) = 2; change(0, 2, 1, 0) = 0 !; drop(0, 2) = 0 !; add(0, 2, 1, 0) = 2
        interest(0, 0, 6) = 0; interest(0, 1, 6) = 1; change(0, 2, 2, 1) = 1; interest(0, 0, 1) = 1; interest(0, 1, 1) = 2
        """);
    edge(16, "false, doing nothing, .. or a MASK, bits can't be", """
        set() = 0; counter(1, true) = 1; add(0, 1, 1, 2) = 1; collect(0, 0, 1) = 1; set() = 2; undo() = 1
        change(0, 1, -1, 0) = 0 !; change(0, 1, 4, 0) = 0 !; change(0, 1, MAX, 0) = 0 !; change(0, 1, MIN, 0) = 0 !
        change(0, 1, 1, -1) = 0 !; change(0, 1, 1, 8) = 0 !; change(0, 1, 1, MAX) = 0 !; change(0, 1, 1, MIN) = 0 !
        """);
  }

  private static void dropping() {
    edge(17, "Such an INTEREST is there no more: true", """
        set() = 0; counter(1, true) = 1; counter(1, true) = 2; counter(1, true) = 3; add(0, 1, 1, 0) = 1
        add(0, 2, 1, 0) = 2; add(0, 3, 1, 0) = 3; drop(0, 2) = 1; listed(0) = 2; shown(0, 0) = 1; shown(0, 1) = 3
        interest(0, 1, 0) = 3; interest(0, 1, 4) = 1; about(1) = 2; handle(2, 4) = 0; write(2, 1) = 1; listed(0) = 2
        drop(0, 1) = 1; drop(0, 3) = 1; about(1) = 0; listed(0) = 0; handle(0, 1) = 0; interest(0, 0, 0) = -1
        """);
    edge(17, "Such an INTEREST is there no more: true", """
        set() = 0; set() = 1; counter(1, true) = 2; add(0, 1, 1, 0) = 1; add(1, 2, 1, 1) = 1; shows(0) = 1
        drop(1, 2) = 1; shows(0) = 0; listed(0) = 1; depth(0) = 2; drop(0, 1) = 1; depth(0) = 1
        add(1, 2, 1, 0) = 1; interest(1, 0, 7) = 0; interest(1, 0, 8) = 0; interest(1, 0, 2) = 0
        """);
    edge(17, "Such an INTEREST is there no more", """
        set() = 0; counter(1, false) = 1; counter(1, false) = 2; add(0, 1, 1, 0) = 1; add(0, 2, 1, 0) = 2; write(2, 1) = 1
        collect(0, 0, 1) = 1; collect(0, 0, 1) = 1; collect(0, 0, 1) = 1; interest(0, 1, 7) = 1; interest(0, 1, 8) = 1
        interest(0, 1, 9) = 1; read(2, 1) = 2; drop(0, 2) = 1; add(0, 2, 1, 0) = 2   # a new one, of which nothing is told
        interest(0, 1, 7) = 0; interest(0, 1, 8) = 0; interest(0, 1, 9) = 0; interest(0, 1, 3) = 1; interest(0, 1, 4) = -1
        """);
    edge(17, "false if there is none such.", """
        set() = 0; counter(1, true) = 1; set() = 2; add(0, 1, 1, 0) = 1; twin(1) = 3; set() = 4; undo() = 1
        drop(0, 2) = 0 !; drop(0, 3) = 0 !; drop(2, 1) = 0 !; drop(1, 1) = 0 !; drop(0, 0) = 0 !; drop(0, 4) = 0 !
        drop(4, 1) = 0 !; drop(16, 1) = 0 !; drop(-1, 1) = 0 !; drop(0, 16) = 0 !; drop(0, -1) = 0 !
        drop(MIN, 1) = 0 !; drop(0, MAX) = 0 !; close(1) = 1; drop(0, 1) = 0 !; timer() = 1; drop(0, 1) = 0 !
        close(1) = 1; twin(3) = 1; drop(0, 1) = 1; drop(0, 1) = 0 !
        """);
  }

  private static void notices() {
    edge(30, "who is armed and has the bit is LISTED (at the end, if it is not on the LIST)", """
        set() = 0; counter(0, true) = 1; counter(0, true) = 2; twin(1) = 3; twin(1) = 4; add(0, 1, 1, 0) = 1
        add(0, 2, 1, 0) = 2; add(0, 3, 2, 1) = 3; add(0, 4, 1, 2) = 4; collect(0, 0, 8) = 1  # by 3, for OUT
        write(2, 1) = 1; write(1, 1) = 1; shown(0, 0) = 2; shown(0, 1) = 1; shown(0, 2) = 4; shown(0, 3) = -1
        write(2, 1) = 1; shown(0, 0) = 2; interest(0, 1, 7) = 2; collect(0, 0, 8) = 3; write(1, 1) = 1
        interest(0, 3, 7) = 1; interest(0, 3, 4) = -1; interest(0, 0, 7) = 2; read(1, 1) = 1; interest(0, 2, 7) = 1
        """);
    edge(30, "is LISTED (at the end, if it is not on the LIST)", """
        set() = 0; counter(0, true) = 1; counter(0, true) = 2; add(0, 1, 1, 0) = 1; add(0, 2, 1, 0) = 2; write(1, 1) = 1
        write(2, 1) = 1; write(1, 1) = 1; shown(0, 0) = 1; shown(0, 1) = 2; listed(0) = 2   # 1 stays where it is
        """);
    edge(30, "one by one in the order in which they were added (to whichever SETS)", """
        counter(0, true) = 0; set() = 1; set() = 2; add(2, 0, 1, 4) = 1; add(1, 0, 1, 4) = 1; await(0, 1, 1, 0) = -2
        await(1, 2, 1, 0) = -2; wakes(0) = 2; write(0, 1) = 1; about(3) = 1; listed(2) = 1; listed(1) = 0
        """);
    edge(30, "A SET that is CALLED: its first sleeper, if it has any, is WOKEN", """
        set() = 0; counter(0, true) = 1; add(0, 1, 1, 1) = 1; write(1, 1) = 1; listed(0) = 1; collect(0, 0, 1) = 1
        await(5, 0, 1, 0) = -2; await(0, 0, 1, 0) = -2; await(3, 0, 1, 0) = -2; write(1, 1) = 1; about(3) = 9
        write(1, 1) = 1; about(3) = 8; write(1, 1) = 1; about(3) = 0; write(1, 1) = 1; listed(0) = 1
        """);
    edge(30, "then a NOTICE of IN (one of its own) goes out at the SET itself", """
        set() = 0; set() = 1; set() = 2; counter(0, true) = 3; add(0, 1, 1, 1) = 1; add(1, 2, 1, 1) = 1
        add(2, 3, 1, 1) = 1; await(0, 0, 1, 0) = -2; await(1, 1, 1, 0) = -2; await(2, 2, 1, 0) = -2; write(3, 1) = 1
        task(2, 4) = 1; task(1, 5) = 1; task(0, 5) = 1; about(3) = 3; listed(0) = 0; write(3, 1) = 1; task(1, 4) = 1
        task(0, 5) = 2; about(3) = 1; write(3, 1) = 1; about(3) = 0; task(0, 5) = 2; got(0, 0, 0) = 1  # none sleeps below
        """);
    edge(30, "then a NOTICE of IN (one of its own) goes out at the SET itself", """
        set() = 0; set() = 1; counter(0, true) = 2; add(0, 1, 0, 0) = 1; add(1, 2, 1, 0) = 1; await(0, 0, 1, 0) = -2
        write(2, 1) = 1; about(3) = 1; task(0, 5) = 0; interest(0, 0, 7) = 0   # IN is not among its bits
        """);
  }

  private static void alone() {
    String two = "counter(0, true) = 0; set() = 1; set() = 2; set() = 3\n";
    edge(30, "but one that is ALONE is passed over, if for another one that is ALONE, ahead of it in this NOTICE", two + """
        add(1, 0, 1, 4) = 1; add(2, 0, 1, 4) = 1; add(3, 0, 1, 4) = 1; await(0, 1, 1, 0) = -2; await(1, 2, 1, 0) = -2
        await(2, 3, 1, 0) = -2; write(0, 1) = 1; about(3) = 6; listed(2) = 0; interest(2, 0, 7) = 0; listed(3) = 0
        interest(3, 0, 7) = 0; write(0, 1) = 1; about(3) = 4; listed(1) = 1; interest(1, 0, 7) = 2; listed(3) = 0
        """);
    edge(30, "another one that is ALONE", two + """
        add(1, 0, 1, 0) = 1; add(2, 0, 1, 4) = 1; add(3, 0, 1, 0) = 1; await(0, 1, 1, 0) = -2; await(1, 2, 1, 0) = -2
        await(2, 3, 1, 0) = -2; wakes(0) = 7; write(0, 1) = 1; about(3) = 0
        """);
    edge(30, "the SET was CALLED and its first sleeper got some", two + """
        add(1, 0, 1, 4) = 1; add(2, 0, 1, 4) = 1; add(3, 0, 1, 4) = 1; await(1, 2, 1, 0) = -2; await(2, 3, 1, 0) = -2
        write(0, 1) = 1; listed(1) = 1; interest(2, 0, 8) = 1; about(3) = 4; interest(3, 0, 7) = 0  # no sleeper at 1
        """);
    // The sleeper at 1 takes what the NOTICE at 1 was about, so that neither the one at 2 nor the one at 3 gets some.
    edge(30, "its first sleeper got some", two + """
        add(1, 0, 1, 1) = 1; add(2, 1, 1, 4) = 1; add(3, 1, 1, 4) = 1; await(0, 1, 1, 0) = -2; await(1, 2, 1, 0) = -2
        await(2, 3, 1, 0) = -2; write(0, 1) = 1; about(3) = 6; task(1, 5) = 1; task(2, 5) = 1; interest(3, 0, 7) = 1
        """);
    edge(30, "ahead of it in this NOTICE", two + """
        add(1, 0, 1, 4) = 1; add(2, 1, 1, 4) = 1; add(3, 0, 1, 4) = 1; await(1, 2, 1, 0) = -2; await(2, 3, 1, 0) = -2
        write(0, 1) = 1; about(3) = 0; got(1, 0, 0) = 1; got(2, 0, 0) = 0   # 2 was CALLED in the NOTICE at 1
        """);
    edge(30, "one that is ALONE is passed over", two + """
        add(1, 0, 1, 4) = 1; add(2, 0, 3, 4) = 1; listed(2) = 1; await(0, 1, 1, 0) = -2; write(0, 1) = 1
        interest(2, 0, 7) = 0; listed(2) = 1   # on the LIST, and passed over: no NOTICE found it
        """);
  }

  private static void collecting() {
    edge(18, "from the LIST the first one is taken off; if it is TRUE, the task gets its HANDLE's number and those of its bits by which its OBJECT is READY", """
        set() = 0; counter(1, false) = 1; counter(1, false) = 2; pipe(5) = 3; add(0, 1, 1, 0) = 1; add(0, 2, 3, 0) = 2
        add(0, 4, 1, 0) = 3; close(3) = 1; read(1, 1) = 1; listed(0) = 3; shows(0) = 2; collect(0, 0, 1) = 1
        got(0, 0, 0) = 2; got(0, 0, 1) = 3; interest(0, 0, 4) = -1; interest(0, 1, 4) = 1; collect(0, 0, 1) = 1
        got(0, 0, 0) = 4; got(0, 0, 1) = 8
        """);
    edge(18, "if it is neither ONCE nor EDGE, it is LISTED again, behind all, when the task is through", """
        set() = 0; counter(1, false) = 1; counter(1, false) = 2; counter(1, false) = 3; add(0, 1, 1, 0) = 1
        add(0, 2, 1, 0) = 2; add(0, 3, 1, 0) = 3; collect(0, 0, 8) = 3; listed(0) = 3; shown(0, 0) = 1
        collect(0, 0, 2) = 2; shown(0, 0) = 3; shown(0, 1) = 1; shown(0, 2) = 2; collect(0, 0, 1) = 1; shown(0, 2) = 3
        """);
    edge(18, "COLLECTS at a SET, up to a number (1 .. 8)", "set() = 0\n" + each(1, 10, "counter(1, true) = @; add(0, @, 1, 0) = @") + """
        collect(0, 0, 8) = 8; got(0, 7, 0) = 8; got(0, 8, 0) = -1; task(0, 2) = 8; task(0, 3) = 8; shown(0, 0) = 9
        collect(1, 0, 1) = 1; got(1, 0, 0) = 9; got(1, 1, 0) = -1; interest(0, 9, 9) = 2; interest(0, 8, 4) = 9
        """);
    edge(18, "till it has got so many, or the LIST is empty", """
        set() = 0; counter(1, false) = 1; counter(1, false) = 2; counter(1, false) = 3; add(0, 1, 1, 1) = 1
        add(0, 2, 1, 1) = 2; add(0, 3, 1, 1) = 3; read(1, 1) = 1; collect(0, 0, 1) = 1; got(0, 0, 0) = 2; listed(0) = 1
        collect(0, 0, 2) = 1; listed(0) = 0; collect(0, 0, 8) = 0; task(0, 2) = 0; task(0, 3) = 2; read(2, 1) = 1
        write(2, 1) = 1; read(2, 1) = 1; listed(0) = 1; collect(0, 0, 8) = 0; listed(0) = 0
        """);
    edge(18, "to COLLECT, also to get none, is one", """
        set() = 0; set() = 1; undo() = 1; about(5) = 1; collect(0, 0, 1) = 0; about(4) = 2; about(5) = 0; redo() = 0
        """);
  }

  private static void collectingWhatCantBe() {
    edge(18, "NONE, doing nothing, if that can't be.", """
        set() = 0; counter(1, false) = 1; add(0, 1, 1, 0) = 1; pipe(5) = 2; timer() = 4; listener(5, 5) = 5; set() = 6
        undo() = 1; collect(-1, 0, 1) = -1 !; collect(6, 0, 1) = -1 !; collect(MAX, 0, 1) = -1 !
        collect(MIN, 0, 1) = -1 !; collect(0, 1, 1) = -1 !; collect(0, 2, 1) = -1 !; collect(0, 3, 1) = -1 !
        collect(0, 4, 1) = -1 !; collect(0, 5, 1) = -1 !; collect(0, 6, 1) = -1 !; collect(0, 16, 1) = -1 !
        collect(0, -1, 1) = -1 !; collect(0, 0, 0) = -1 !; collect(0, 0, 9) = -1 !; collect(0, 0, -1) = -1 !
        collect(0, 0, MAX) = -1 !; collect(0, 0, MIN) = -1 !; collect(5, 0, 8) = 1; collect(0, 0, 1) = 1
        """);
    edge(18, "A TASK, which is not asleep", """
        set() = 0; set() = 1; counter(1, false) = 2; add(1, 2, 1, 0) = 1; await(0, 0, 1, 0) = -2; collect(0, 0, 1) = -1 !
        collect(0, 1, 1) = -1 !; collect(1, 0, 1) = 0; close(0) = 1; collect(0, 1, 1) = 1
        """);
  }

  private static void awaiting() {
    edge(19, "if it gets none, it falls asleep at the SET, for so much TIME (1 .. 1000", "set() = 0; await(0, 0, 1, 1) = -2\n"
        + "await(1, 0, 1, 1000) = -2; task(0, 7) = 1; task(1, 7) = 1000; about(3) = 3; tick(1) = 1; about(3) = 2\n"
        + "task(0, 6) = 1; tick(99) = 100\n" + each(2, 9, "tick(100) = @00")
        + "tick(99) = 999; about(3) = 2; tick(1) = 1000; about(3) = 0; task(1, 6) = 1");
    edge(19, "0: without an end", "set() = 0; await(0, 0, 1, 0) = -2; task(0, 7) = -1\n" + each(1, 11, "tick(100) = @00")
        + "task(0, 0) = 1; task(0, 1) = 0; task(0, 6) = 0");
    edge(19, "how many it got; -2, if it fell asleep", """
        set() = 0; counter(1, false) = 1; add(0, 1, 1, 1) = 1; await(0, 0, 8, 5) = 1; task(0, 0) = 0; task(0, 7) = -1
        await(0, 0, 8, 5) = -2; task(0, 0) = 1; task(0, 2) = 0; task(0, 5) = 0; about(4) = 5; undo() = 1; about(3) = 0
        redo() = 1; about(3) = 1
        """);
    edge(19, "NONE, doing nothing, if that can't be.", """
        set() = 0; counter(1, false) = 1; set() = 2; undo() = 1; await(-1, 0, 1, 0) = -1 !; await(6, 0, 1, 0) = -1 !
        await(MAX, 0, 1, 0) = -1 !; await(MIN, 0, 1, 0) = -1 !; await(0, 1, 1, 0) = -1 !; await(0, 2, 1, 0) = -1 !
        await(0, 16, 1, 0) = -1 !; await(0, -1, 1, 0) = -1 !; await(0, 0, 0, 0) = -1 !; await(0, 0, 9, 0) = -1 !
        await(0, 0, MIN, 0) = -1 !; await(0, 0, MAX, 0) = -1 !; await(0, 0, 1, -1) = -1 !; await(0, 0, 1, 1001) = -1 !
        await(0, 0, 1, MAX) = -1 !; await(0, 0, 1, MIN) = -1 !; await(5, 0, 8, 0) = -2; await(0, 0, 1, 0) = -2
        """);
    edge(19, "NONE, doing nothing, if that can't be.", """
        set() = 0; counter(1, false) = 1; add(0, 1, 1, 1) = 1; await(0, 0, 1, 1001) = -1 !; await(0, 0, 1, -1) = -1 !
        await(0, 0, 1, 1000) = 1; await(0, 0, 1, 7) = -2; set() = 2; await(0, 0, 1, 0) = -1 !; await(0, 2, 1, 5) = -1 !
        task(0, 1) = 0; task(0, 7) = 7
        """);
  }

  private static void waking() {
    edge(28, "WOKEN, a task COLLECTS, as it would have when it fell asleep.", """
        set() = 0; counter(0, false) = 1; twin(1) = 2; twin(1) = 3; add(0, 1, 1, 0) = 1; await(0, 0, 8, 0) = -2
        await(1, 0, 1, 0) = -2; await(2, 0, 2, 0) = -2; add(0, 2, 1, 0) = 2; add(0, 3, 1, 0) = 3; write(1, 1) = 1
        task(0, 2) = 1; task(1, 2) = 1; task(2, 2) = 2; got(0, 0, 0) = 1; got(1, 0, 0) = 1; got(2, 0, 0) = 2
        got(2, 1, 0) = 1; listed(0) = 3
        """);
    edge(28, "If it gets none, it sleeps on, in its place.", """
        set() = 0; set() = 1; counter(0, false) = 2; add(0, 1, 1, 0) = 1; add(1, 2, 1, 1) = 1; await(3, 0, 1, 9) = -2
        await(2, 0, 1, 0) = -2; await(1, 1, 1, 0) = -2; write(2, 1) = 1; task(1, 4) = 1; task(3, 5) = 1; task(3, 4) = 0
        task(2, 5) = 0; sleeper(0, 0) = 3; sleeper(0, 1) = 2; task(3, 7) = 9; task(3, 0) = 1; listed(0) = 0
        task(3, 2) = 0; write(2, 1) = 1; task(3, 4) = 1; sleeper(0, 0) = 2
        """);
    edge(28, "the next sleeper is WOKEN, and so on", """
        set() = 0; set() = 1; counter(0, false) = 2; counter(0, false) = 3; add(0, 2, 1, 0) = 1; add(0, 3, 1, 1) = 2
        await(0, 0, 1, 0) = -2; await(1, 0, 1, 0) = -2; await(2, 0, 1, 0) = -2; write(2, 1) = 1; about(3) = 6
        write(3, 1) = 1; about(3) = 0; got(1, 0, 0) = 2; got(2, 0, 0) = 3; listed(0) = 1   # first 2, then 3
        """);
    edge(28, "the next sleeper is WOKEN, and so on", """
        set() = 0; counter(0, false) = 1; counter(0, false) = 2; add(0, 1, 1, 1) = 1; add(0, 2, 1, 0) = 2
        await(0, 0, 1, 0) = -2; await(1, 0, 1, 0) = -2; await(2, 0, 1, 0) = -2; write(2, 1) = 1; about(3) = 6
        write(1, 1) = 1; about(3) = 0; got(1, 0, 0) = 2; got(2, 0, 0) = 1; task(2, 4) = 1
        """);
    edge(28, "if the LIST holds some that are TRUE", """
        set() = 0; set() = 1; set() = 2; counter(1, true) = 3; counter(0, true) = 4; add(0, 3, 1, 0) = 1
        add(2, 3, 1, 0) = 1; add(1, 4, 1, 0) = 1; await(0, 1, 1, 0) = -2; await(1, 1, 1, 0) = -2; write(4, 1) = 1
        about(3) = 2; task(1, 5) = 0; listed(0) = 1; listed(2) = 1   # other SETS' LISTS do not count
        """);
    // LIST: 1, 2, of which 2 is not TRUE any more when task 2 got 1: the next one is not woken for it.
    edge(28, "if the LIST holds some that are TRUE", """
        set() = 0; counter(0, false) = 1; counter(0, false) = 2; add(0, 1, 1, 0) = 1; add(0, 2, 1, 0) = 2
        await(0, 0, 1, 0) = -2; await(1, 0, 2, 0) = -2; await(2, 0, 1, 0) = -2; await(3, 0, 1, 0) = -2
        write(1, 1) = 1; write(2, 1) = 1; about(3) = 12; listed(0) = 2; read(1, 1) = 1; read(2, 1) = 1; shows(0) = 0
        write(1, 1) = 1; about(3) = 8; got(2, 0, 0) = 1; task(3, 5) = 0; interest(0, 1, 4) = 0; interest(0, 0, 4) = 1
        """);
    edge(28, "and were not LISTED again by it", """
        set() = 0; counter(0, false) = 1; counter(0, false) = 2; add(0, 1, 1, 0) = 1; add(0, 2, 1, 0) = 2
        await(0, 0, 1, 0) = -2; await(1, 0, 2, 0) = -2; await(2, 0, 1, 0) = -2; write(1, 1) = 1; about(3) = 6
        write(2, 1) = 1; about(3) = 4; task(1, 2) = 2; task(2, 5) = 0; shows(0) = 2
        """);
    edge(28, "A SET whose last HANDLE is closed: its sleepers sleep no more, and got nothing.", """
        set() = 0; counter(1, false) = 1; add(0, 1, 1, 0) = 1; collect(0, 0, 1) = 1; drop(0, 1) = 1; await(0, 0, 1, 5) = -2
        await(1, 0, 1, 0) = -2; twin(0) = 2; close(0) = 1; about(3) = 3; close(2) = 1; about(3) = 0; task(0, 6) = 1
        task(1, 6) = 1; task(0, 2) = 0; task(0, 3) = 1; task(0, 4) = 0; task(0, 5) = 0; task(0, 7) = -1; task(0, 1) = -1
        tick(5) = 5; task(0, 6) = 1
        """);
  }

  private static void askingHandles() {
    edge(20, "NONE if there is none such, or for another what.", """
        set() = 0; counter(1, true) = 1; close(1) = 1; handle(1, 0) = -1 !; handle(15, 0) = -1; handle(16, 0) = -1 !
        handle(-1, 0) = -1 !; handle(MAX, 0) = -1 !; handle(MIN, 5) = -1 !; handle(0, 6) = -1 !; handle(0, -1) = -1 !
        handle(0, MAX) = -1 !; handle(0, MIN) = -1 !; handle(0, 0) = 4 !; handle(0, 5) = 0 !; handle(1, 6) = -1
        """);
    edge(20, "NONE if there is none such", "pipe(5) = 0; set() = 2; listener(1, 1) = 3; connect(3) = 4; close(1) = 1\n"
        + each(0, 5, "handle(1, @) = -1; handle(5, @) = -1; handle(15, @) = -1; handle(16, @) = -1; handle(-1, @) = -1"));
    edge(20, "1: what it holds (bytes of the PIPE, also when the other end is GONE", """
        pipe(5) = 0; write(1, 3) = 3; handle(0, 1) = 3; handle(1, 1) = 3; twin(0) = 2; close(1) = 1; handle(0, 1) = 3
        read(2, 1) = 1; handle(0, 1) = 2; pipe(5) = 1; write(3, 4) = 4; close(1) = 1; handle(3, 1) = 4; handle(3, 5) = 5
        """);
    edge(20, "how often it fired, INTERESTS, how many wait)", """
        timer() = 0; set() = 1; listener(2, 5) = 2; handle(0, 1) = 0; handle(1, 1) = 0; handle(2, 1) = 0; arm(0, 1, 1) = 1
        tick(2) = 2; add(1, 0, 1, 0) = 1; add(1, 2, 1, 0) = 2; connect(2) = 3; handle(0, 1) = 2; handle(1, 1) = 2
        handle(2, 1) = 1; connect(2) = 4; handle(2, 1) = 2; accept(2) = 5; handle(2, 1) = 1
        """);
    edge(20, "READING END: IN if the PIPE holds some, ENDED if the WRITING END is GONE", """
        pipe(5) = 0; handle(0, 2) = 0; write(1, 1) = 1; handle(0, 2) = 1; close(1) = 1; handle(0, 2) = 5
        read(0, 1) = 1; handle(0, 2) = 4
        """);
    edge(20, "WRITING END: OUT if the PIPE holds less than its room and the READING END is not GONE, BROKEN if it is", """
        pipe(2) = 0; handle(1, 2) = 2; write(1, 1) = 1; handle(1, 2) = 2; write(1, 1) = 1; handle(1, 2) = 0
        read(0, 1) = 1; handle(1, 2) = 2; close(0) = 1; handle(1, 2) = 8; pipe(1) = 0; write(2, 1) = 1; close(0) = 1
        handle(2, 2) = 8
        """);
    edge(20, "TIMER: IN if it fired; SET: IN if it SHOWS some", """
        timer() = 0; set() = 1; add(1, 0, 1, 0) = 1; handle(0, 2) = 0; handle(1, 2) = 0; arm(0, 1, 0) = 1; tick(1) = 1
        handle(0, 2) = 1; handle(1, 2) = 1; read(0, 1) = 1; handle(0, 2) = 0; listed(1) = 1; handle(1, 2) = 0
        arm(0, 1, 0) = 1; tick(1) = 2; change(1, 0, 1, 2) = 1; collect(0, 1, 1) = 1; handle(1, 2) = 0
        """);
    edge(20, "SET: IN if it SHOWS some", """
        set() = 0; set() = 1; set() = 2; set() = 3; pipe(5) = 4; pipe(5) = 6; add(0, 4, 0, 0) = 1; add(1, 7, 0, 0) = 1
        add(2, 0, 1, 0) = 1; add(3, 1, 1, 0) = 1; close(5) = 1; handle(0, 2) = 1; handle(2, 2) = 1; handle(1, 2) = 0
        handle(3, 2) = 0; close(6) = 1; handle(1, 2) = 1; handle(3, 2) = 1; shows(3) = 1   # by ENDED, by BROKEN
        """);
    edge(20, "3: how many HANDLES name it, 4: how many INTERESTS are in it", """
        set() = 0; counter(1, true) = 1; handle(1, 3) = 1; handle(1, 4) = 0; twin(1) = 2; twin(2) = 3; handle(2, 3) = 3
        add(0, 1, 1, 0) = 1; add(0, 3, 1, 0) = 2; set() = 4; add(4, 0, 1, 0) = 1; add(4, 2, 1, 0) = 2; handle(2, 4) = 3
        handle(0, 4) = 1; close(1) = 1; handle(2, 3) = 2; handle(2, 4) = 3; drop(0, 3) = 1; handle(2, 4) = 2
        """);
    edge(20, "5: the PIPE's room; 1 if the COUNTER is by ones, else 0; when the TIMER fires next (NONE)", """
        pipe(100) = 0; counter(3, true) = 2; counter(3, false) = 3; timer() = 4; handle(0, 5) = 100; handle(1, 5) = 100
        handle(2, 5) = 1; handle(3, 5) = 0; handle(4, 5) = -1; tick(3) = 3; arm(4, 2, 4) = 1; handle(4, 5) = 5
        tick(2) = 5; handle(4, 5) = 9; arm(4, 1, 0) = 1; handle(4, 5) = 6; tick(1) = 6; handle(4, 5) = -1
        """);
    edge(20, "of a SET how many sleep at it; a LISTENER's backlog", """
        set() = 0; listener(12, 1) = 1; handle(0, 5) = 0; handle(1, 5) = 12
        """ + each(0, 5, "await(@, 0, 1, 0) = -2") + "handle(0, 5) = 6; connect(1) = 2; handle(1, 5) = 12");
    edge(20, "of a SET how many sleep at it", """
        set() = 0; set() = 1; set() = 2; await(0, 1, 1, 0) = -2; handle(0, 5) = 0; handle(1, 5) = 1; handle(2, 5) = 0
        await(5, 0, 1, 0) = -2; await(3, 1, 1, 0) = -2; handle(0, 5) = 1; handle(1, 5) = 2; sleeper(2, 0) = -1
        """);
    edge(21, "The lowest HANDLE that names the other end of a PIPE", """
        pipe(5) = 0; twin(0) = 2; twin(1) = 3; other(0) = 1; other(2) = 1; other(1) = 0; other(3) = 0; close(0) = 1
        other(3) = 2; twin(3) = 0; other(2) = 0; close(2) = 1; other(0) = -1; listener(1, 5) = 2; connect(2) = 4
        other(4) = -1; accept(2) = 5; other(4) = 5; other(5) = 4
        """);
    edge(21, "NONE if there is none, or the HANDLE names no end.", """
        counter(1, true) = 0; timer() = 1; set() = 2; listener(1, 5) = 3; other(0) = -1 !; other(1) = -1 !; other(2) = -1 !
        other(3) = -1 !; other(4) = -1 !; other(15) = -1 !; other(16) = -1 !; other(-1) = -1 !; other(MAX) = -1 !
        other(MIN) = -1 !; pipe(5) = 4; close(5) = 1; other(4) = -1; other(5) = -1
        """);
  }

  private static void askingInterests() {
    edge(22, "NONE if there is none such, or for another what.", """
        set() = 0; counter(1, true) = 1; interest(0, 0, 0) = -1 !; add(0, 1, 1, 0) = 1; interest(0, 1, 0) = -1 !
        interest(0, -1, 0) = -1 !; interest(0, MAX, 0) = -1 !; interest(0, MIN, 0) = -1 !; interest(0, 0, 10) = -1 !
        interest(0, 0, -1) = -1 !; interest(0, 0, MAX) = -1 !; interest(1, 0, 0) = -1 !; interest(2, 0, 0) = -1 !
        interest(16, 0, 0) = -1 !; interest(-1, 0, 0) = -1 !; interest(0, 0, 9) = 0 !; interest(0, 0, 0) = 1 !
        """);
    edge(22, "NONE if there is none such", "set() = 0; set() = 1; counter(1, true) = 2; add(0, 2, 1, 0) = 1\n"
        + each(0, 9, "interest(0, 1, @) = -1; interest(1, 0, @) = -1; interest(2, 0, @) = -1; interest(3, 0, @) = -1"));
    edge(22, "Of the k-th (0 ..) INTEREST that a SET holds", """
        set() = 0; set() = 1; counter(1, true) = 2; counter(1, true) = 3; add(1, 2, 1, 0) = 1; add(0, 3, 2, 1) = 1
        add(1, 3, 3, 0) = 2; add(0, 2, 0, 4) = 2; interest(0, 0, 0) = 3; interest(0, 1, 0) = 2; interest(0, 1, 2) = 4
        interest(1, 0, 0) = 2; interest(1, 1, 0) = 3; interest(1, 1, 1) = 3; interest(1, 2, 0) = -1
        """);
    edge(22, "4: its place on the LIST (0 ..; NONE), 5: 1 if it is TRUE, else 0", """
        set() = 0; counter(0, true) = 1; counter(1, true) = 2; add(0, 1, 1, 0) = 1; add(0, 2, 1, 0) = 2
        interest(0, 0, 4) = -1; interest(0, 0, 5) = 0; interest(0, 1, 4) = 0; interest(0, 1, 5) = 1; write(1, 1) = 1
        interest(0, 0, 4) = 1; interest(0, 0, 5) = 1; read(1, 1) = 1; interest(0, 0, 4) = 1; interest(0, 0, 5) = 0
        change(0, 2, 1, 3) = 1; collect(0, 0, 1) = 1; interest(0, 1, 3) = 0; interest(0, 1, 5) = 0; handle(2, 2) = 3
        """);
    edge(22, "4: its place on the LIST", """
        set() = 0; set() = 1; set() = 2; counter(1, true) = 3; counter(1, true) = 4; add(1, 3, 1, 0) = 1
        add(0, 3, 1, 0) = 1; add(2, 4, 1, 0) = 1; add(0, 4, 1, 0) = 2; add(2, 3, 1, 0) = 2; interest(1, 0, 4) = 0
        interest(0, 0, 4) = 0; interest(0, 1, 4) = 1; interest(2, 0, 4) = 0; interest(2, 1, 4) = 1; shown(2, 0) = 4
        """);
    edge(22, "It is TRUE if it is armed, and its OBJECT is READY by one of its bits.", """
        set() = 0; counter(1, true) = 1; twin(1) = 2; twin(1) = 3; add(0, 1, 0, 0) = 1; add(0, 2, 2, 0) = 2
        add(0, 3, 3, 2) = 3; interest(0, 0, 5) = 0; interest(0, 1, 5) = 1; interest(0, 2, 5) = 1; collect(0, 0, 8) = 2
        interest(0, 2, 5) = 0; interest(0, 2, 3) = 0; interest(0, 1, 5) = 1; change(0, 3, 3, 2) = 1; interest(0, 2, 5) = 1
        """);
    edge(22, "6: 1 if that HANDLE names its OBJECT now, else 0", """
        set() = 0; counter(0, true) = 1; counter(0, true) = 2; counter(0, true) = 3; add(0, 1, 1, 0) = 1
        add(0, 2, 1, 0) = 2; add(0, 3, 1, 0) = 3; twin(2) = 4; interest(0, 1, 6) = 1; close(2) = 1; interest(0, 0, 6) = 1
        interest(0, 1, 6) = 0; interest(0, 2, 6) = 1
        """);
    edge(22, "6: 1 if that HANDLE names its OBJECT now, else 0", """
        set() = 0; counter(0, true) = 1; add(0, 1, 1, 0) = 1; interest(0, 0, 6) = 1; twin(1) = 2; close(1) = 1
        interest(0, 0, 6) = 0; interest(0, 0, 0) = 1; timer() = 1; interest(0, 0, 6) = 0; close(1) = 1; twin(2) = 1
        interest(0, 0, 6) = 1
        """);
    edge(22, "7: how many NOTICES listed it, or found it on the LIST, since it was added", """
        set() = 0; counter(1, false) = 1; add(0, 1, 1, 2) = 1; interest(0, 0, 7) = 0; write(1, 1) = 1
        interest(0, 0, 7) = 1; collect(0, 0, 1) = 1; write(1, 1) = 1; interest(0, 0, 7) = 1   # not armed
        change(0, 1, 1, 0) = 1; interest(0, 0, 7) = 1; read(1, 1) = 3; interest(0, 0, 7) = 1  # OUT is not wanted
        write(1, 1) = 1; interest(0, 0, 7) = 2; collect(0, 0, 1) = 1; interest(0, 0, 7) = 2; drop(0, 1) = 1
        add(0, 1, 1, 0) = 1; interest(0, 0, 7) = 0
        """);
    edge(22, "8: how often a task got it", """
        set() = 0; counter(1, false) = 1; add(0, 1, 1, 0) = 1; interest(0, 0, 8) = 0; collect(0, 0, 8) = 1
        interest(0, 0, 8) = 1; collect(1, 0, 1) = 1; interest(0, 0, 8) = 2; read(1, 1) = 1; collect(1, 0, 1) = 0
        interest(0, 0, 8) = 2; await(1, 0, 1, 0) = -2; write(1, 1) = 1; interest(0, 0, 8) = 3
        """);
    edge(22, "9: how many times a task COLLECTED at its SET and left it on the LIST, where it had been ahead of that, since it was LISTED", """
        set() = 0; set() = 1; counter(1, true) = 2; counter(1, true) = 3; add(0, 2, 1, 0) = 1; add(0, 3, 1, 0) = 2
        add(1, 2, 1, 0) = 1; interest(0, 1, 9) = 0; collect(0, 1, 1) = 1; interest(0, 1, 9) = 0; collect(0, 0, 1) = 1
        interest(0, 0, 9) = 0; interest(0, 1, 9) = 1; write(3, 1) = 1; change(0, 3, 1, 0) = 1; interest(0, 1, 9) = 1
        collect(0, 0, 1) = 1; interest(0, 1, 9) = 0; interest(0, 0, 9) = 1; collect(0, 0, 8) = 2; interest(0, 0, 9) = 0
        """);
    edge(22, "a task COLLECTED at its SET", """
        set() = 0; set() = 1; set() = 2; counter(1, true) = 3; counter(1, true) = 4; add(0, 3, 1, 0) = 1
        add(0, 4, 1, 0) = 2; add(1, 3, 1, 0) = 1; add(1, 4, 1, 0) = 2; add(2, 3, 1, 0) = 1; add(2, 4, 1, 0) = 2
        collect(0, 1, 1) = 1; interest(0, 1, 9) = 0; interest(1, 1, 9) = 1; interest(2, 1, 9) = 0
        """);
    edge(22, "(0: it is not on the LIST)", """
        set() = 0; counter(1, true) = 1; counter(1, true) = 2; add(0, 1, 1, 0) = 1; add(0, 2, 1, 1) = 2
        collect(0, 0, 1) = 1; interest(0, 1, 9) = 1; read(2, 1) = 1; read(1, 1) = 1; collect(0, 0, 1) = 0
        interest(0, 1, 9) = 0; interest(0, 0, 9) = 0; interest(0, 1, 4) = -1; write(2, 1) = 1; interest(0, 1, 9) = 0
        """);
    edge(22, "how many times a task COLLECTED at its SET and left it on the LIST", """
        set() = 0; counter(0, true) = 1; counter(0, true) = 2; add(0, 1, 1, 0) = 1; add(0, 2, 1, 0) = 2
        await(0, 0, 1, 0) = -2; await(1, 0, 2, 0) = -2; await(2, 0, 1, 0) = -2; write(1, 1) = 1; write(2, 1) = 1
        read(1, 1) = 1; write(1, 1) = 1; task(2, 4) = 1; got(2, 0, 0) = 1; interest(0, 1, 9) = 1; interest(0, 0, 9) = 0
        """);
  }

  private static void askingSets() {
    edge(23, "NONE if there is none such.", """
        counter(1, true) = 0; pipe(5) = 1; timer() = 3; listener(1, 1) = 4; listed(0) = -1 !; listed(1) = -1 !
        listed(2) = -1 !; listed(3) = -1 !; listed(4) = -1 !; listed(5) = -1 !; listed(15) = -1 !; listed(16) = -1 !
        listed(-1) = -1 !; listed(MAX) = -1 !; listed(MIN) = -1 !; set() = 5; listed(5) = 0 !
        """);
    edge(23, "How many are on the LIST of a SET", """
        set() = 0; set() = 1; counter(1, true) = 2; add(0, 2, 1, 0) = 1; add(1, 2, 1, 2) = 1; listed(0) = 1; listed(1) = 1
        collect(0, 1, 1) = 1; listed(1) = 0; listed(0) = 1; read(2, 1) = 1; listed(0) = 1
        """);
    edge(24, "NONE if there is none such.", """
        counter(1, true) = 0; pipe(5) = 1; timer() = 3; listener(1, 1) = 4; shows(0) = -1 !; shows(1) = -1 !
        shows(2) = -1 !; shows(3) = -1 !; shows(4) = -1 !; shows(5) = -1 !; shows(15) = -1 !; shows(16) = -1 !
        shows(-1) = -1 !; shows(MAX) = -1 !; shows(MIN) = -1 !; set() = 5; shows(5) = 0 !
        """);
    edge(24, "A SET SHOWS those on its LIST that are TRUE.", """
        set() = 0; counter(1, false) = 1; counter(1, false) = 2; counter(1, false) = 3; add(0, 1, 1, 0) = 1
        add(0, 2, 1, 1) = 2; add(0, 3, 1, 0) = 3; shows(0) = 3; collect(0, 0, 8) = 3; shows(0) = 2  # 2: TRUE, not listed
        interest(0, 1, 5) = 1; read(1, 1) = 1; shows(0) = 1; listed(0) = 2; write(1, 1) = 1; shows(0) = 2
        """);
    edge(24, "How many a SET SHOWS", """
        set() = 0; set() = 1; set() = 2; counter(1, true) = 3; add(1, 3, 1, 0) = 1; shows(0) = 0; shows(1) = 1; shows(2) = 0
        handle(0, 2) = 0; handle(1, 2) = 1; handle(2, 2) = 0; shown(0, 0) = -1; shown(2, 0) = -1; listed(2) = 0
        """);
    edge(25, "NONE if there is none such.", """
        set() = 0; counter(1, true) = 1; shown(0, 0) = -1 !; add(0, 1, 1, 0) = 1; shown(0, 0) = 1 !; shown(0, 1) = -1 !
        shown(0, -1) = -1 !; shown(0, MAX) = -1 !; shown(0, MIN) = -1 !; shown(1, 0) = -1 !; shown(2, 0) = -1 !
        shown(16, 0) = -1 !; shown(-1, 0) = -1 !; read(1, 1) = 1; listed(0) = 1; shown(0, 0) = -1 !
        """);
    edge(25, "of the i-th (0 ..) that a SET SHOWS, in the order of its LIST", """
        set() = 0; counter(1, false) = 1; counter(1, false) = 2; counter(1, false) = 3; add(0, 3, 1, 0) = 1
        add(0, 1, 1, 0) = 2; add(0, 2, 1, 0) = 3; collect(0, 0, 1) = 1; shown(0, 0) = 1; shown(0, 1) = 2; shown(0, 2) = 3
        read(2, 1) = 1; shown(0, 1) = 3; shown(0, 2) = -1; twin(1) = 4; close(1) = 1; shown(0, 0) = 1
        """);
    edge(26, "NONE if there is none such.", """
        counter(1, true) = 0; pipe(5) = 1; timer() = 3; listener(1, 1) = 4; depth(0) = -1 !; depth(1) = -1 !
        depth(2) = -1 !; depth(3) = -1 !; depth(4) = -1 !; depth(5) = -1 !; depth(15) = -1 !; depth(16) = -1 !
        depth(-1) = -1 !; depth(MAX) = -1 !; depth(MIN) = -1 !; set() = 5; depth(5) = 1 !
        """);
    edge(26, "How deep a SET is with those in it (1: none in it)", """
        set() = 0; set() = 1; set() = 2; set() = 3; counter(1, true) = 4; add(0, 4, 1, 0) = 1; depth(0) = 1
        add(0, 3, 0, 0) = 2; depth(0) = 2; add(0, 1, 0, 0) = 3; add(1, 2, 0, 2) = 1; depth(0) = 3; depth(1) = 2
        depth(2) = 1; drop(1, 2) = 1; depth(0) = 2; close(1) = 1; close(3) = 1; depth(0) = 1
        """);
    edge(27, "NONE if there is none such.", """
        set() = 0; counter(1, true) = 1; sleeper(0, 0) = -1 !; await(5, 0, 1, 0) = -2; sleeper(0, 0) = 5 !
        sleeper(0, 1) = -1 !; sleeper(0, -1) = -1 !; sleeper(0, MAX) = -1 !; sleeper(0, MIN) = -1 !; sleeper(1, 0) = -1 !
        sleeper(2, 0) = -1 !; sleeper(16, 0) = -1 !; sleeper(-1, 0) = -1 !
        """);
    edge(27, "The i-th (0 ..) sleeper of a SET", """
        set() = 0; set() = 1; await(5, 0, 1, 1) = -2; await(3, 0, 1, 0) = -2; await(4, 1, 1, 0) = -2; await(0, 0, 1, 0) = -2
        sleeper(0, 0) = 5; sleeper(0, 1) = 3; sleeper(0, 2) = 0; sleeper(0, 3) = -1; sleeper(1, 0) = 4; tick(1) = 1
        sleeper(0, 0) = 3; await(5, 0, 1, 0) = -2; sleeper(0, 2) = 5; await(1, 0, 1, 0) = -2; await(2, 0, 1, 0) = -2
        sleeper(0, 4) = 2; sleeper(0, 5) = -1
        """);
  }

  private static void askingTasks() {
    edge(28, "NONE if there is none such, or for another what.", """
        task(6, 0) = -1 !; task(-1, 0) = -1 !; task(MAX, 0) = -1 !; task(MIN, 9) = -1 !; task(0, 10) = -1 !
        task(0, -1) = -1 !; task(0, MAX) = -1 !; task(0, MIN) = -1 !; task(5, 9) = 0 !; task(5, 10) = -1 !; task(0, 0) = 0 !
        """);
    edge(28, "NONE if there is none such", each(0, 9, "task(6, @) = -1; task(-1, @) = -1; task(7, @) = -1"));
    edge(28, "0: 1 if it is asleep, else 0, 1: the lowest HANDLE that names the SET it is asleep at (NONE)", """
        set() = 0; twin(0) = 1; await(0, 1, 1, 0) = -2; task(0, 0) = 1; task(0, 1) = 0; close(0) = 1; task(0, 1) = 1
        twin(1) = 0; task(0, 1) = 0; close(0) = 1; close(1) = 1; task(0, 0) = 0; task(0, 1) = -1
        """);
    edge(28, "2: how many it got by the latest COLLECTING (0 ahead of any, behind one that got none", """
        set() = 0; counter(1, false) = 1; twin(1) = 2; task(0, 2) = 0; add(0, 1, 1, 1) = 1; add(0, 2, 1, 0) = 2
        collect(0, 0, 8) = 2; task(0, 2) = 2; collect(0, 0, 8) = 1; task(0, 2) = 1; task(0, 3) = 3; read(1, 1) = 1
        collect(0, 0, 8) = 0; task(0, 2) = 0; task(0, 3) = 3
        """);
    edge(28, "or when it slept no more by something else than being WOKEN), 3: how many since ever", """
        set() = 0; counter(1, false) = 1; add(0, 1, 1, 1) = 1; collect(0, 0, 1) = 1; await(0, 0, 1, 2) = -2; task(0, 2) = 0
        tick(2) = 2; task(0, 2) = 0; task(0, 3) = 1; await(0, 0, 1, 2) = -2; write(1, 1) = 1; task(0, 2) = 1; task(0, 3) = 2
        await(0, 0, 1, 2) = -2; close(0) = 1; task(0, 2) = 0; task(0, 3) = 2; task(0, 4) = 1; task(0, 6) = 2
        """);
    edge(28, "4: how often it was WOKEN and got some, 5: got none", """
        set() = 0; set() = 1; counter(0, false) = 2; add(0, 1, 1, 0) = 1; add(1, 2, 1, 1) = 1; await(0, 0, 1, 0) = -2
        await(1, 1, 1, 0) = -2; write(2, 1) = 1; task(0, 4) = 0; task(0, 5) = 1; task(1, 4) = 1; task(1, 5) = 0
        await(1, 1, 1, 0) = -2; write(2, 1) = 1; task(0, 5) = 2; task(1, 4) = 2; write(2, 1) = 1; task(0, 4) = 1
        task(0, 5) = 2; collect(0, 0, 1) = 1; task(0, 4) = 1; task(0, 6) = 0
        """);
    edge(28, "6: how often it slept no more, for its time was over, or its SET GONE, 7: when its waiting is over (NONE: not at all)", """
        set() = 0; tick(5) = 5; await(0, 0, 1, 3) = -2; task(0, 7) = 8; tick(3) = 8; task(0, 6) = 1; task(0, 7) = -1
        await(0, 0, 1, 0) = -2; task(0, 7) = -1; close(0) = 1; task(0, 6) = 2; task(0, 4) = 0; task(0, 5) = 0
        set() = 0; await(0, 0, 1, 9) = -2; counter(1, true) = 1; add(0, 1, 1, 0) = 1; task(0, 7) = -1; task(0, 6) = 2
        """);
    edge(28, "6: how often it slept no more", """
        set() = 0; await(0, 0, 1, 1) = -2; await(5, 0, 1, 1) = -2; tick(1) = 1; task(0, 6) = 1; task(0, 9) = 0
        task(5, 9) = 0; round(0, false) = 0; round(0, true) = 1; task(0, 6) = 1; await(0, 0, 1, 1) = -2; tick(1) = 2
        task(0, 6) = 2; task(0, 9) = 1; task(5, 6) = 1; task(1, 6) = 0; task(1, 9) = 0
        """);
    edge(28, "8: STEPS of its PROGRAM that are left, 9: 1 if it GOES ROUND, else 0", """
        task(0, 8) = 0; plan(0, 4, 9, 0) = 1; plan(0, 4, 9, 0) = 2; task(0, 8) = 2; task(1, 8) = 0; step(0) = 0
        task(0, 8) = 1; task(0, 9) = 0; round(0, true) = 1; task(0, 9) = 1; task(1, 9) = 0; step(0) = 0; task(0, 8) = 1
        forget(0) = 1; task(0, 8) = 0; task(0, 9) = 1
        """);
  }

  private static void askingWhatWasGot() {
    edge(29, "NONE if there is none such, or for another what.", """
        set() = 0; counter(1, false) = 1; add(0, 1, 3, 0) = 1; got(0, 0, 0) = -1 !; collect(0, 0, 8) = 1; got(0, 0, 0) = 1 !
        got(0, 0, 1) = 3 !; got(0, 0, 2) = -1 !; got(0, 0, -1) = -1 !; got(0, 0, MAX) = -1 !; got(0, 1, 0) = -1 !
        got(0, -1, 0) = -1 !; got(0, 8, 0) = -1 !; got(0, MAX, 0) = -1 !; got(0, MIN, 0) = -1 !; got(1, 0, 0) = -1 !
        got(6, 0, 0) = -1 !; got(-1, 0, 0) = -1 !; got(MAX, 0, 0) = -1 !; got(5, 0, 0) = -1 !
        """);
    edge(29, "Of the i-th (0 ..) that a TASK got latest", "set() = 0\n" + each(1, 9, "counter(@, true) = @; add(0, @, 3, 0) = @")
        + "collect(5, 0, 8) = 8\n" + each(0, 7, "got(5, @, 1) = 3") + """
        got(5, 0, 0) = 1; got(5, 7, 0) = 8; got(5, 8, 0) = -1; collect(4, 0, 2) = 2; got(4, 0, 0) = 9; got(4, 1, 0) = 1
        got(5, 0, 0) = 1; collect(5, 0, 1) = 1; got(5, 0, 0) = 2; got(5, 1, 0) = -1; read(2, 1) = 1; got(5, 0, 1) = 3
        close(2) = 1; got(5, 0, 0) = 2
        """);
    // What six tasks got, eight each, is told of each one, and their PROGRAMS are as they were planned.
    edge(29, "Of the i-th (0 ..) that a TASK got latest what 0: the HANDLE's number, 1: the bits", "set() = 0\n"
        + each(1, 8, "counter(@, true) = @; add(0, @, 3, 0) = @") + "counter(0, true) = 9\n"
        + each(0, 5, "plan(@, 0, 9, 4) = 1; plan(@, 0, 9, 3) = 2; plan(@, 0, 9, 2) = 3; plan(@, 0, 9, 1) = 4")
        + each(0, 5, "collect(@, 0, 8) = 8") + each(0, 5, "got(@, 0, 0) = 1; got(@, 7, 0) = 8; got(@, 0, 1) = 3; got(@, 7, 1) = 3")
        + each(0, 5, "step(@) = 4; step(@) = 3; step(@) = 2; step(@) = 1; step(@) = -4; got(@, 0, 0) = 1; got(@, 7, 1) = 3"));
    edge(29, "Of the i-th (0 ..) that a TASK got latest", """
        set() = 0; counter(1, false) = 1; add(0, 1, 1, 1) = 1; collect(0, 0, 8) = 1; got(0, 0, 0) = 1; collect(0, 0, 8) = 0
        got(0, 0, 0) = -1; write(1, 1) = 1; collect(0, 0, 8) = 1; await(0, 0, 1, 1) = -2; got(0, 0, 0) = -1; tick(1) = 1
        got(0, 0, 0) = -1
        """);
  }

  private static void askingWhoWakes() {
    edge(30, "NONE if there is none such.", """
        set() = 0; counter(0, false) = 1; add(0, 1, 1, 0) = 1; await(5, 0, 1, 0) = -2; wakes(1) = 32 !; wakes(2) = -1 !
        wakes(15) = -1 !; wakes(16) = -1 !; wakes(-1) = -1 !; wakes(MAX) = -1 !; wakes(MIN) = -1 !
        """);
    edge(30, "(0 if that would do nothing)", """
        set() = 0; pipe(1) = 1; timer() = 3; listener(1, 1) = 4; counter(999, false) = 5; add(0, 1, 1, 1) = 1
        add(0, 5, 1, 1) = 2; collect(0, 0, 8) = 1; await(0, 0, 1, 0) = -2; wakes(0) = 0 !; wakes(1) = 0 !; wakes(3) = 0 !
        wakes(4) = 0 !; wakes(2) = 1 !; wakes(5) = 1 !; write(5, 1) = 1; await(0, 0, 1, 0) = -2; wakes(5) = 0 !
        write(2, 1) = 1; await(0, 0, 1, 0) = -2; wakes(2) = 0 !; read(1, 1) = 1; wakes(2) = 1 !; close(1) = 1
        wakes(2) = 0 !
        """);
    edge(30, "TASKS that would get something, were 1 written to a HANDLE, as bits", """
        set() = 0; set() = 1; counter(0, false) = 2; twin(2) = 3; add(0, 1, 1, 0) = 1; add(1, 2, 1, 1) = 1
        add(1, 3, 1, 1) = 2; wakes(2) = 0; await(0, 0, 1, 0) = -2; wakes(2) = 1; await(5, 1, 1, 0) = -2; wakes(2) = 33
        await(4, 1, 1, 0) = -2; wakes(2) = 48; task(0, 5) = 0; about(3) = 49; handle(2, 1) = 0; write(2, 1) = 1
        about(3) = 1; task(0, 5) = 2
        """);
  }
}
