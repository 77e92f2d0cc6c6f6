/** The document's promises one by one: each run is a list of calls on a new object with the answers that are due. */
public final class PromisesTest {
  private static int wrong = 0;
  private static final boolean[] tested = new boolean[45];

  private static void run(int promise, String what, String calls) {
    tested[promise] = true;
    wrong += Runs.wrongIn("promise " + promise + " (" + what + ")", calls);
  }

  public static void main(String[] args) {
    making();
    listeners();
    closing();
    bytes();
    timers();
    interests();
    collecting();
    waking();
    asking();
    programs();
    takingBack();
    for (int p = 1; p <= 44; p++) {
      if (!tested[p]) {
        wrong++;
        System.out.println("promise " + p + " has no test");
      }
    }
    if (ReadyBell.NONE != -1) {
      wrong++;
      System.out.println("NONE is not -1");
    }
    System.out.println(Runs.answersSoFar() + " answers, " + wrong + " of them not as due");
    if (wrong != 0) System.exit(1);
  }

  private static void making() {
    run(1, "nothing is there", """
        about(0) = 0; about(1) = 0; about(2) = 0; about(3) = 0; about(4) = 0; about(5) = 0; about(6) = 0
        handle(0, 0) = -1; handle(15, 0) = -1; handle(16, 0) = -1; handle(-1, 0) = -1
        task(0, 0) = 0; task(5, 0) = 0; task(5, 8) = 0; undo() = 0; redo() = 0; back(0) = -1; stuck() = 0
        """);
    run(2, "handles and room", """
        pipe(1) = 0; handle(0, 0) = 0; handle(1, 0) = 1; handle(0, 5) = 1; handle(1, 5) = 1; about(6) = 2
        pipe(100) = 2; handle(3, 5) = 100
        pipe(0) = -1; pipe(101) = -1; pipe(-5) = -1; pipe(MAX) = -1; pipe(MIN) = -1; about(4) = 2
        close(1) = 1; pipe(7) = 1; handle(1, 0) = 0; handle(4, 0) = 1; other(1) = 4   # 1 and 4, the lowest two
        """);
    run(2, "two must be left", """
        pipe(1) = 0; pipe(1) = 2; pipe(1) = 4; pipe(1) = 6; pipe(1) = 8; pipe(1) = 10; pipe(1) = 12
        set() = 14; pipe(1) = -1; about(0) = 32767; close(3) = 1; pipe(9) = 3; handle(15, 5) = 9
        about(0) = 65535; pipe(1) = -1; about(6) = 16
        """);
    run(3, "values", """
        counter(0, true) = 0; counter(1000, false) = 1; counter(1001, true) = -1; counter(-1, true) = -1
        counter(MIN, false) = -1; handle(0, 0) = 2; handle(0, 1) = 0; handle(1, 1) = 1000; handle(0, 5) = 1
        handle(1, 5) = 0; handle(0, 2) = 2; handle(1, 2) = 1; counter(5, false) = 2; handle(2, 2) = 3; about(4) = 3
        """);
    run(3, "none left", sixteen("counter(1, true)") + "counter(1, true) = -1; about(6) = 16\n");
    run(4, "a timer is not set", """
        timer() = 0; handle(0, 0) = 3; handle(0, 1) = 0; handle(0, 2) = 0; handle(0, 5) = -1
        tick(100) = 100; handle(0, 1) = 0
        """ );
    run(4, "none left", sixteen("timer()") + "timer() = -1; about(4) = 12\n");
    run(5, "a set", """
        set() = 0; handle(0, 0) = 4; handle(0, 1) = 0; handle(0, 2) = 0; handle(0, 5) = 0; depth(0) = 1
        """);
    run(5, "none left", sixteen("set()") + "set() = -1; close(7) = 1; set() = 7\n");
    run(6, "a listener", """
        listener(1, 1) = 0; listener(12, 100) = 1; listener(0, 1) = -1; listener(13, 1) = -1
        listener(1, 0) = -1; listener(1, 101) = -1; listener(MIN, MAX) = -1
        handle(0, 0) = 5; handle(0, 1) = 0; handle(0, 2) = 0; handle(1, 5) = 12; about(4) = 2
        """);
    run(6, "none left", sixteen("listener(3, 3)") + "listener(3, 3) = -1\n");
    run(9, "twins", """
        twin(0) = -1; counter(3, false) = 0; twin(0) = 1; twin(1) = 2; handle(0, 3) = 3; about(6) = 1
        write(2, 4) = 4; handle(0, 1) = 7; close(0) = 1; handle(1, 3) = 2; twin(1) = 0; handle(1, 3) = 3
        twin(16) = -1; twin(-1) = -1; about(4) = 6
        """);
    run(9, "none left", sixteen("set()") + "twin(3) = -1; close(9) = 1; twin(3) = 9; twin(3) = -1\n");
  }

  private static String sixteen(String call) {
    StringBuilder text = new StringBuilder();
    for (int h = 0; h < 16; h++) text.append(call).append(" = ").append(h).append("\n");
    return text.toString();
  }

  private static void listeners() {
    run(7, "a pipe is made there", """
        listener(2, 9) = 0; set() = 1; add(1, 0, 1, 0) = 1; listed(1) = 0
        connect(0) = 2; handle(2, 0) = 1; handle(2, 5) = 9; handle(2, 2) = 2; other(2) = -1
        handle(0, 1) = 1; handle(0, 2) = 1; about(6) = 4; listed(1) = 1; interest(1, 0, 7) = 1
        connect(0) = 3; connect(0) = -2; interest(1, 0, 7) = 2
        connect(1) = -1; connect(2) = -1; connect(9) = -1; connect(-1) = -1; connect(16) = -1; about(4) = 5
        """);
    run(7, "a waiting end takes bytes", """
        listener(2, 9) = 0; connect(0) = 1; write(1, 20) = 9; write(1, 1) = 0; accept(0) = 2
        handle(2, 1) = 9; read(2, 4) = 4; other(2) = 1; other(1) = 2
        """);
    run(7, "twelve at all", """
        listener(12, 1) = 0; listener(12, 1) = 1
        connect(0) = 2; connect(0) = 3; connect(0) = 4; connect(0) = 5; connect(0) = 6; connect(0) = 7
        connect(1) = 8; connect(1) = 9; connect(1) = 10; connect(1) = 11; connect(1) = 12; connect(1) = 13
        about(6) = 26; connect(0) = -2; connect(1) = -2; set() = 14; set() = 15; about(6) = 28; connect(0) = -1
        accept(0) = -1; close(14) = 1; accept(0) = 14; connect(0) = -1; close(15) = 1; connect(1) = 15
        about(6) = 28; close(2) = 1; connect(0) = -2; about(6) = 27
        """);
    run(7, "twelve at all, whichever came first", """
        set() = 0; listener(12, 1) = 1; close(0) = 1; connect(1) = 0; connect(1) = 2; connect(1) = 3; connect(1) = 4
        connect(1) = 5; connect(1) = 6; listener(12, 1) = 7; connect(7) = 8; connect(7) = 9; connect(7) = 10
        connect(7) = 11; connect(7) = 12; connect(7) = 13; connect(7) = -2; connect(1) = -2; close(1) = 1
        connect(7) = 1; close(7) = 1; about(6) = 13; handle(1, 2) = 8
        """);
    run(10, "twelve that wait are GONE at once", "listener(12, 3) = 0\n" + connects(12) + """
        about(6) = 25; close(0) = 1; about(6) = 12; handle(1, 2) = 8; handle(12, 2) = 8; write(12, 1) = -2
        """);
    run(8, "who waited longest", """
        listener(3, 5) = 0; accept(0) = -2; about(4) = 1; connect(0) = 1; connect(0) = 2; write(2, 2) = 2
        accept(0) = 3; other(3) = 1; handle(0, 1) = 1; connect(0) = 4; accept(0) = 5; other(5) = 2; handle(5, 1) = 2
        accept(0) = 6; other(6) = 4; accept(0) = -2; handle(0, 2) = 0; accept(1) = -1; accept(20) = -1
        """);
    run(8, "none left goes ahead of none waiting", """
        listener(3, 5) = 0; set() = 1; set() = 2; set() = 3; set() = 4; set() = 5; set() = 6; set() = 7; set() = 8
        set() = 9; set() = 10; set() = 11; set() = 12; set() = 13; set() = 14; accept(0) = -2; set() = 15
        accept(0) = -1; connect(0) = -1
        """);
    run(8, "a writing end that was closed", """
        listener(3, 5) = 0; connect(0) = 1; write(1, 2) = 2; close(1) = 1; about(6) = 2; accept(0) = 1
        handle(1, 2) = 5; read(1, 9) = 2; read(1, 9) = -2; other(1) = -1
        """);
  }

  private static String connects(int many) {
    StringBuilder text = new StringBuilder();
    for (int h = 1; h <= many; h++) text.append("connect(0) = ").append(h).append("\n");
    return text.toString();
  }

  private static void closing() {
    run(10, "handles", """
        close(0) = 0; close(-1) = 0; close(16) = 0; set() = 0; twin(0) = 1; close(0) = 1; close(0) = 0
        about(6) = 1; about(0) = 2; close(1) = 1; about(6) = 0; about(4) = 4
        """);
    run(10, "interests go with their object, not with their handle", """
        set() = 0; counter(1, false) = 1; add(0, 1, 1, 0) = 1; twin(1) = 2; close(1) = 1
        about(1) = 1; interest(0, 0, 6) = 0; interest(0, 0, 5) = 1; shown(0, 0) = 1
        counter(0, false) = 1; interest(0, 0, 6) = 0; drop(0, 1) = 0; add(0, 1, 1, 0) = 2
        close(2) = 1; about(1) = 1; listed(0) = 0; interest(0, 0, 6) = 1
        """);
    run(10, "a set goes with what it holds", """
        set() = 0; set() = 1; counter(1, false) = 2; add(0, 1, 1, 0) = 1; add(1, 2, 1, 0) = 1
        listed(0) = 1; collect(3, 0, 1) = 1; await(4, 1, 1, 0) = 1; write(2, 1) = 1; change(1, 2, 0, 0) = 1
        await(4, 1, 3, 0) = -2; await(5, 1, 3, 7) = -2; close(1) = 1; about(3) = 0; task(4, 6) = 1; task(5, 6) = 1
        task(4, 2) = 0; task(5, 7) = -1; task(4, 1) = -1; about(1) = 0; listed(0) = 0; handle(2, 4) = 0
        """);
    run(10, "ends tell the other end", """
        set() = 0; pipe(3) = 1; add(0, 1, 0, 0) = 1; add(0, 2, 0, 0) = 2; twin(2) = 3; close(2) = 1; listed(0) = 0
        close(3) = 1; about(1) = 1; shown(0, 0) = 1; collect(0, 0, 1) = 1; got(0, 0, 1) = 4; handle(1, 2) = 4
        """);
    run(10, "a reading end tells BROKEN", """
        set() = 0; pipe(3) = 1; add(0, 2, 2, 0) = 1; collect(0, 0, 1) = 1; got(0, 0, 1) = 2; close(1) = 1
        interest(0, 0, 7) = 1; collect(0, 0, 1) = 1; got(0, 0, 1) = 8; handle(2, 1) = 0; write(2, 1) = -2
        """);
    run(10, "those that wait at a listener, who waited longest first", """
        listener(4, 5) = 0; connect(0) = 1; connect(0) = 2; connect(0) = 3; set() = 4
        add(4, 3, 0, 0) = 1; add(4, 1, 0, 0) = 2; add(4, 2, 0, 0) = 3; about(6) = 8; twin(0) = 5
        close(0) = 1; about(6) = 8; listed(4) = 0; close(5) = 1; about(6) = 4; listed(4) = 3
        shown(4, 0) = 1; shown(4, 1) = 2; shown(4, 2) = 3; write(1, 1) = -2
        """);
    run(10, "one by one: the others still wait", """
        listener(4, 5) = 0; connect(0) = 1; connect(0) = 2; set() = 3; add(3, 1, 0, 1) = 1; add(3, 2, 0, 1) = 2
        await(0, 3, 8, 0) = -2; await(1, 3, 8, 0) = -2; close(0) = 1
        task(0, 2) = 1; got(0, 0, 0) = 1; task(1, 2) = 1; got(1, 0, 0) = 2; got(1, 0, 1) = 8
        """);
    run(10, "a waiting end whose writing end is GONE", """
        listener(4, 5) = 0; connect(0) = 1; connect(0) = 2; close(1) = 1; about(6) = 4; close(0) = 1; about(6) = 1
        handle(2, 2) = 8
        """);
    run(21, "the other end", """
        pipe(1) = 0; twin(1) = 2; other(0) = 1; close(1) = 1; other(0) = 2; twin(0) = 1; other(2) = 0; close(0) = 1
        other(2) = 1; close(1) = 1; other(2) = -1; set() = 0; counter(0, true) = 1; other(0) = -1; other(1) = -1
        other(9) = -1; other(-1) = -1
        """);
  }

  private static void bytes() {
    run(11, "a writing end", """
        pipe(10) = 0; write(1, 0) = -1; write(1, 101) = -1; write(1, MIN) = -1; write(0, 1) = -1; write(2, 1) = -1
        write(1, 4) = 4; handle(0, 1) = 4; write(1, 100) = 6; write(1, 1) = 0; handle(1, 2) = 0; handle(0, 2) = 1
        about(4) = 3; close(0) = 1; write(1, 1) = -2; handle(1, 1) = 10; handle(1, 2) = 8; about(4) = 4
        """);
    run(11, "a counter takes all or nothing", """
        counter(900, true) = 0; write(0, 100) = 100; write(0, 1) = 0; handle(0, 2) = 1; about(4) = 2
        read(0, 1) = 1; write(0, 2) = 0; write(0, 1) = 1; handle(0, 1) = 1000; timer() = 1; write(1, 1) = -1
        set() = 2; write(2, 1) = -1; listener(1, 1) = 3; write(3, 1) = -1; write(0, 101) = -1
        """);
    run(11, "a notice of IN", """
        set() = 0; pipe(10) = 1; counter(0, false) = 3; add(0, 1, 1, 0) = 1; add(0, 3, 1, 0) = 2; add(0, 2, 1, 0) = 3
        write(2, 1) = 1; write(3, 1) = 1; write(3, 1) = 1; interest(0, 0, 7) = 1; interest(0, 1, 7) = 2
        interest(0, 2, 7) = 0; listed(0) = 2; shown(0, 0) = 1; shown(0, 1) = 3
        """);
    run(12, "a reading end", """
        pipe(10) = 0; read(0, 5) = 0; write(1, 7) = 7; read(0, 0) = -1; read(0, 101) = -1; read(1, 1) = -1
        read(0, 5) = 5; read(0, 100) = 2; read(0, 1) = 0; about(4) = 4; write(1, 3) = 3; close(1) = 1; read(0, 2) = 2
        handle(0, 2) = 5; read(0, 2) = 1; read(0, 2) = -2; handle(0, 2) = 4; about(4) = 8; read(9, 1) = -1
        """);
    run(12, "counters", """
        counter(7, false) = 0; counter(2, true) = 1; read(0, 1) = 7; read(0, 1) = 0; read(1, 100) = 1
        read(1, 1) = 1; read(1, 1) = 0; about(4) = 5; counter(1000, false) = 2; read(2, 1) = 1000
        read(2, 0) = -1; read(2, 101) = -1; set() = 3; read(3, 1) = -1; listener(1, 1) = 4; read(4, 1) = -1
        """);
    run(12, "timers, without a notice", """
        timer() = 0; set() = 1; add(1, 0, 3, 1) = 1; arm(0, 1, 1) = 1; tick(3) = 3; interest(1, 0, 7) = 3
        read(0, 101) = -1; read(0, 100) = 3; handle(0, 1) = 0; interest(1, 0, 7) = 3; read(0, 1) = 0
        handle(0, 5) = 4; about(4) = 6
        """);
    run(12, "a notice of OUT", """
        set() = 0; pipe(2) = 1; counter(3, true) = 3; add(0, 2, 2, 1) = 1; add(0, 3, 2, 1) = 2; collect(0, 0, 8) = 2
        listed(0) = 0; write(2, 2) = 2; listed(0) = 0; read(1, 1) = 1; listed(0) = 1; read(3, 1) = 1; listed(0) = 2
        interest(0, 0, 7) = 1; interest(0, 1, 7) = 1; read(1, 1) = 1; read(1, 1) = 0; interest(0, 0, 7) = 2
        """);
  }

  private static void timers() {
    run(13, "what can't be", """
        timer() = 0; counter(0, true) = 1; arm(1, 1, 1) = 0; arm(2, 1, 1) = 0; arm(0, -1, 0) = 0; arm(0, 1001, 0) = 0
        arm(0, 1, -1) = 0; arm(0, 1, 1001) = 0; arm(0, 0, 1001) = 0; arm(0, MIN, MAX) = 0; about(4) = 2
        arm(0, 1000, 1000) = 1; handle(0, 5) = 1000; arm(0, 0, 1000) = 1; handle(0, 5) = -1; about(4) = 4
        """);
    run(13, "once, again and again, anew", """
        timer() = 0; tick(5) = 5; arm(0, 3, 0) = 1; handle(0, 5) = 8; tick(2) = 7; handle(0, 2) = 0; tick(1) = 8
        handle(0, 2) = 1; handle(0, 5) = -1; tick(9) = 17; handle(0, 1) = 1; arm(0, 2, 4) = 1; handle(0, 1) = 0
        tick(2) = 19; handle(0, 5) = 23; tick(8) = 27; handle(0, 1) = 3; arm(0, 0, 0) = 1; handle(0, 1) = 0
        tick(100) = 127; handle(0, 1) = 0; handle(0, 2) = 0
        """);
    run(13, "1,000 at most", "timer() = 0; arm(0, 1, 1) = 1\n" + ticks(0, 9) + """
        handle(0, 1) = 900; tick(99) = 999; handle(0, 1) = 999; tick(1) = 1000; handle(0, 1) = 1000
        set() = 1; add(1, 0, 1, 1) = 1; tick(1) = 1001; handle(0, 1) = 1000; interest(1, 0, 7) = 1
        read(0, 1) = 1000; tick(1) = 1002; handle(0, 1) = 1
        """);
    run(14, "how far", """
        tick(0) = -1; tick(-1) = -1; tick(101) = -1; tick(MAX) = -1; about(4) = 0; tick(1) = 1; tick(100) = 101
        about(2) = 101; about(4) = 2
        """);
    run(14, "by the lowest handles, each at once", """
        set() = 0; timer() = 1; timer() = 2; add(0, 1, 1, 0) = 1; add(0, 2, 1, 0) = 2; twin(1) = 3; close(1) = 1
        arm(3, 1, 0) = 1; arm(2, 1, 0) = 1; await(0, 0, 8, 0) = -2; await(1, 0, 8, 0) = -2; tick(1) = 1
        task(0, 2) = 1; got(0, 0, 0) = 2; task(1, 2) = 2; got(1, 0, 0) = 2; got(1, 1, 0) = 1
        """);
    run(14, "those whose waiting is over, behind the timers", """
        set() = 0; timer() = 1; add(0, 1, 1, 1) = 1; arm(1, 4, 0) = 1; await(0, 0, 1, 3) = -2; await(1, 0, 1, 4) = -2
        await(2, 0, 1, 4) = -2; task(2, 7) = 4; tick(2) = 2; about(3) = 7; tick(1) = 3; about(3) = 6; task(0, 6) = 1
        task(0, 2) = 0; tick(1) = 4; about(3) = 0; task(1, 4) = 1; task(1, 6) = 0; task(2, 4) = 0; task(2, 6) = 1
        """);
  }

  private static String ticks(int from, int hundreds) {
    StringBuilder text = new StringBuilder();
    for (int k = 1; k <= hundreds; k++) text.append("tick(100) = ").append(from + 100 * k).append("\n");
    return text.toString();
  }

  private static void interests() {
    run(15, "what can't be", """
        set() = 0; counter(1, true) = 1; set() = 2; add(0, 3, 1, 0) = -1; add(3, 1, 1, 0) = -1; add(1, 0, 1, 0) = -1
        add(0, 0, 1, 0) = -1; twin(0) = 3; add(0, 3, 1, 0) = -1; add(0, 1, -1, 0) = -1; add(0, 1, 4, 0) = -1
        add(0, 1, 1, -1) = -1; add(0, 1, 1, 8) = -1; add(16, 1, 1, 0) = -1; add(0, 16, 1, 0) = -1; about(4) = 4
        add(0, 1, 3, 7) = 1; add(0, 1, 0, 0) = -2; add(3, 1, 0, 0) = -2; about(4) = 5
        add(0, 1, 4, 0) = -1; add(2, 1, 0, 0) = 1; handle(1, 4) = 2; about(1) = 2; twin(1) = 4; add(0, 4, 1, 0) = 2
        """);
    run(15, "not in itself, not more than three deep", """
        set() = 0; set() = 1; set() = 2; set() = 3; add(0, 1, 1, 0) = 1; add(1, 0, 1, 0) = -3; add(2, 3, 1, 0) = 1
        add(1, 2, 1, 0) = -3; depth(0) = 2; drop(2, 3) = 1; add(1, 2, 1, 0) = 1; depth(0) = 3; add(2, 0, 1, 0) = -3
        add(3, 0, 1, 0) = -3; add(3, 1, 1, 0) = 1; depth(3) = 3; add(2, 3, 1, 0) = -3; about(4) = 9
        counter(0, false) = 4; add(2, 4, 1, 0) = 1; close(1) = 1; depth(0) = 1; add(2, 0, 1, 0) = 2; depth(2) = 2
        """);
    StringBuilder many = new StringBuilder("set() = 0\nset() = 1\n");
    for (int h = 2; h < 14; h++) many.append("counter(0, true) = ").append(h).append("\n");
    for (int h = 2; h < 14; h++) {
      many.append("add(0, ").append(h).append(", 1, 0) = ").append(h - 1).append("\n");
      many.append("add(1, ").append(h).append(", 1, 0) = ").append(h - 1).append("\n");
    }
    many.append("about(1) = 24; set() = 14; add(14, 2, 1, 0) = -4; add(0, 2, 1, 0) = -2; add(14, 14, 1, 0) = -1\n");
    many.append("add(0, 1, 1, 0) = -4; drop(1, 5) = 1; add(0, 1, 1, 0) = 13; add(1, 0, 1, 0) = -3\n");
    many.append("handle(1, 1) = 11; interest(1, 3, 0) = 6; interest(0, 12, 0) = 1; interest(0, 13, 0) = -1\n");
    run(15, "24 in all", many.toString());
    run(15, "TRUE at once", """
        set() = 0; set() = 1; counter(1, true) = 2; add(1, 0, 1, 0) = 1; await(0, 0, 1, 0) = -2; await(1, 1, 1, 0) = -2
        add(0, 2, 1, 0) = 1; about(3) = 0; got(0, 0, 0) = 2; got(1, 0, 0) = 0; interest(0, 0, 7) = 0
        interest(1, 0, 7) = 1; listed(0) = 1; interest(0, 0, 8) = 1
        """);
    run(16, "changed and armed", """
        set() = 0; counter(1, true) = 1; add(0, 1, 1, 2) = 1; collect(0, 0, 1) = 1; interest(0, 0, 3) = 0
        listed(0) = 0; change(0, 1, 4, 0) = 0; change(0, 1, -1, 0) = 0; change(0, 1, 1, 8) = 0; change(0, 1, 1, -1) = 0
        change(0, 2, 1, 0) = 0; change(1, 1, 1, 0) = 0; change(2, 1, 1, 0) = 0; about(4) = 4
        change(0, 1, 1, 2) = 1; about(4) = 5; interest(0, 0, 3) = 1; listed(0) = 1; interest(0, 0, 7) = 0
        change(0, 1, 0, 5) = 1; interest(0, 0, 1) = 0; interest(0, 0, 2) = 5; listed(0) = 1; shows(0) = 0
        change(0, 1, 2, 1) = 1; listed(0) = 1; shows(0) = 1; interest(0, 0, 8) = 1
        """);
    run(16, "the set is called, also if it is on the list", """
        set() = 0; counter(1, true) = 1; counter(1, true) = 2; add(0, 1, 0, 0) = 1; add(0, 2, 0, 0) = 2
        await(0, 0, 1, 0) = -2; await(1, 0, 1, 0) = -2; change(0, 1, 1, 0) = 1; about(3) = 2
        change(0, 1, 1, 0) = 1; about(3) = 0; task(1, 4) = 1; interest(0, 0, 8) = 2
        """);
    run(16, "by the number, in the object that it names now", """
        set() = 0; counter(1, true) = 1; add(0, 1, 1, 0) = 1; twin(1) = 2; close(1) = 1; change(0, 1, 1, 0) = 0
        change(0, 2, 1, 0) = 0; drop(0, 2) = 0; counter(0, true) = 1; change(0, 1, 1, 0) = 0; drop(0, 1) = 0
        close(1) = 1; twin(2) = 1; change(0, 1, 2, 1) = 1; interest(0, 0, 1) = 2; drop(0, 1) = 1; about(1) = 0
        """);
    run(17, "dropped", """
        set() = 0; counter(1, true) = 1; counter(1, true) = 2; counter(1, true) = 3; add(0, 1, 1, 0) = 1
        add(0, 2, 1, 0) = 2; add(0, 3, 1, 0) = 3; drop(0, 2) = 1; drop(0, 2) = 0; drop(1, 2) = 0; drop(9, 1) = 0
        drop(0, 9) = 0; interest(0, 1, 0) = 3; interest(0, 1, 4) = 1; interest(0, 2, 0) = -1; listed(0) = 2
        shown(0, 1) = 3; handle(2, 4) = 0; about(1) = 2; about(4) = 8; add(0, 2, 1, 0) = 3; shown(0, 2) = 2
        """);
    run(22, "what is told of an interest", """
        set() = 0; counter(0, true) = 1; pipe(2) = 2; add(0, 1, 1, 0) = 1; add(0, 3, 2, 7) = 2; add(0, 2, 3, 4) = 3
        interest(0, 0, 0) = 1; interest(0, 1, 0) = 3; interest(0, 1, 1) = 2; interest(0, 1, 2) = 7
        interest(0, 2, 1) = 3; interest(0, 2, 2) = 4; interest(0, 1, 3) = 1; interest(0, 1, 4) = 0
        interest(0, 0, 4) = -1; interest(0, 0, 5) = 0; interest(0, 1, 5) = 1; interest(0, 0, 6) = 1
        interest(0, 0, 9) = 0; interest(0, 0, 10) = -1; interest(0, 0, -1) = -1; interest(0, -1, 0) = -1
        interest(0, 3, 0) = -1; interest(1, 0, 0) = -1; interest(7, 0, 0) = -1; interest(0, MAX, 0) = -1
        write(3, 1) = 1; interest(0, 2, 4) = 1; read(2, 1) = 1; interest(0, 2, 4) = 1; interest(0, 2, 5) = 0
        """);
    run(22, "how often one was left on the list", """
        set() = 0; counter(1, true) = 1; counter(1, true) = 2; counter(1, true) = 3; add(0, 1, 1, 1) = 1
        add(0, 2, 1, 0) = 2; add(0, 3, 1, 2) = 3; collect(0, 0, 1) = 1; interest(0, 0, 9) = 0; interest(0, 1, 9) = 1
        interest(0, 2, 9) = 1; write(3, 1) = 1; interest(0, 2, 9) = 1; collect(0, 0, 1) = 1; interest(0, 1, 9) = 0
        interest(0, 1, 4) = 1; interest(0, 2, 9) = 2; write(1, 1) = 1; interest(0, 0, 9) = 0; interest(0, 0, 4) = 2
        collect(1, 0, 1) = 1; interest(0, 2, 9) = 0; interest(0, 1, 9) = 1; interest(0, 0, 9) = 1
        collect(1, 0, 2) = 2; interest(0, 1, 9) = 0; interest(0, 0, 9) = 0; interest(0, 1, 8) = 2
        """);
  }

  private static void collecting() {
    run(18, "what can't be", """
        set() = 0; counter(1, true) = 1; collect(0, 1, 1) = -1; collect(0, 2, 1) = -1; collect(-1, 0, 1) = -1
        collect(6, 0, 1) = -1; collect(0, 0, 0) = -1; collect(0, 0, 9) = -1; collect(0, 0, MIN) = -1; about(4) = 2
        collect(0, 0, 8) = 0; about(4) = 3; await(0, 0, 1, 0) = -2; collect(0, 0, 1) = -1; collect(1, 0, 1) = 0
        """);
    run(18, "each is listed again as it wants", """
        set() = 0; counter(1, true) = 1; counter(1, true) = 2; counter(1, true) = 3; counter(1, true) = 4
        add(0, 1, 1, 0) = 1; add(0, 2, 1, 1) = 2; add(0, 3, 1, 2) = 3; add(0, 4, 3, 3) = 4; collect(2, 0, 8) = 4
        got(2, 0, 0) = 1; got(2, 1, 0) = 2; got(2, 2, 0) = 3; got(2, 3, 0) = 4; got(2, 3, 1) = 3; got(2, 4, 0) = -1
        listed(0) = 1; interest(0, 0, 3) = 1; interest(0, 1, 3) = 1; interest(0, 2, 3) = 0; interest(0, 3, 3) = 0
        write(1, 1) = 1; write(2, 1) = 1; write(3, 1) = 1; write(4, 1) = 1; listed(0) = 2; interest(0, 2, 7) = 0
        interest(0, 0, 4) = 0; interest(0, 1, 4) = 1; task(2, 3) = 4
        """);
    run(18, "behind all, when the task is through", """
        set() = 0; counter(1, true) = 1; counter(1, true) = 2; counter(0, true) = 3; counter(1, true) = 4
        add(0, 1, 1, 0) = 1; add(0, 2, 1, 0) = 2; add(0, 3, 3, 0) = 3; add(0, 4, 1, 0) = 4; change(0, 3, 1, 0) = 1
        listed(0) = 4; shows(0) = 3; collect(0, 0, 3) = 3; got(0, 2, 0) = 4; listed(0) = 3; interest(0, 2, 4) = -1
        collect(0, 0, 2) = 2; got(0, 0, 0) = 1; got(0, 1, 0) = 2; shown(0, 0) = 4; shown(0, 1) = 1; shown(0, 2) = 2
        """);
    StringBuilder many = new StringBuilder("set() = 0; counter(0, false) = 1; counter(0, false) = 2; counter(0, false) = 3\n");
    for (int thing = 1; thing <= 3; thing++) {
      for (int h = 4; h < 12; h++) {
        if (thing > 1) many.append("close(").append(h).append(") = 1\n");
        many.append("twin(").append(thing).append(") = ").append(h).append("\n");
        many.append("add(0, ").append(h).append(", 1, 0) = ").append((thing - 1) * 8 + h - 3).append("\n");
      }
    }
    for (int thing = 1; thing <= 3; thing++) {
      many.append("write(").append(thing).append(", 1) = 1; read(").append(thing).append(", 1) = 1\n");
    }
    many.append("about(1) = 24; listed(0) = 24; shows(0) = 0; change(0, 11, 2, 0) = 1; interest(0, 23, 4) = 23\n");
    many.append("shows(0) = 1; collect(0, 0, 1) = 1; got(0, 0, 0) = 11; got(0, 0, 1) = 2; listed(0) = 1\n");
    run(18, "the last of 24", many.toString());
    run(19, "what can't be", """
        set() = 0; counter(1, true) = 1; await(0, 1, 1, 0) = -1; await(0, 5, 1, 0) = -1; await(-1, 0, 1, 0) = -1
        await(6, 0, 1, 0) = -1; await(0, 0, 0, 0) = -1; await(0, 0, 9, 0) = -1; await(0, 0, 1, -1) = -1
        await(0, 0, 1, 1001) = -1; about(4) = 2; await(0, 0, 8, 1000) = -2; task(0, 7) = 1000; about(4) = 3
        await(0, 0, 1, 0) = -1; task(0, 0) = 1; task(0, 1) = 0; await(1, 0, 1, 0) = -2; task(1, 7) = -1
        """);
    run(19, "some at once", """
        set() = 0; counter(1, true) = 1; add(0, 1, 1, 0) = 1; await(0, 0, 1, 5) = 1; task(0, 0) = 0; task(0, 7) = -1
        got(0, 0, 0) = 1; task(0, 3) = 1; task(0, 4) = 0; read(1, 1) = 1; await(0, 0, 1, 5) = -2; listed(0) = 0
        got(0, 0, 0) = -1; tick(4) = 4; task(0, 0) = 1; tick(1) = 5; task(0, 0) = 0
        """);
    run(23, "listed", """
        set() = 0; counter(1, true) = 1; listed(0) = 0; add(0, 1, 1, 0) = 1; listed(0) = 1; read(1, 1) = 1
        listed(0) = 1; listed(1) = -1; listed(2) = -1; listed(-1) = -1; listed(16) = -1
        """);
    run(24, "shows", """
        set() = 0; counter(1, true) = 1; shows(0) = 0; add(0, 1, 1, 0) = 1; shows(0) = 1; read(1, 1) = 1
        shows(0) = 0; change(0, 1, 2, 0) = 1; shows(0) = 1; shows(1) = -1; shows(5) = -1; shows(MIN) = -1
        """);
    run(25, "shown, in the order of the list", """
        set() = 0; counter(0, true) = 1; counter(0, true) = 2; counter(0, true) = 3; add(0, 1, 1, 0) = 1
        add(0, 2, 1, 0) = 2; add(0, 3, 1, 0) = 3; write(3, 1) = 1; write(2, 1) = 1; write(1, 1) = 1; shown(0, 0) = 3
        shown(0, 1) = 2; shown(0, 2) = 1; shown(0, 3) = -1; shown(0, -1) = -1; read(2, 1) = 1; shown(0, 1) = 1
        shown(0, 2) = -1; shown(1, 0) = -1; shown(9, 0) = -1
        """);
    run(26, "depth", """
        set() = 0; set() = 1; set() = 2; counter(0, true) = 3; depth(0) = 1; add(0, 3, 1, 0) = 1; depth(0) = 1
        add(0, 1, 0, 0) = 2; depth(0) = 2; add(1, 2, 1, 0) = 1; depth(0) = 3; depth(1) = 2; depth(2) = 1
        depth(3) = -1; depth(4) = -1; depth(-1) = -1
        """);
    run(27, "sleepers", """
        set() = 0; set() = 1; await(3, 0, 1, 0) = -2; await(1, 0, 1, 0) = -2; await(2, 1, 1, 0) = -2
        await(0, 0, 1, 0) = -2; sleeper(0, 0) = 3; sleeper(0, 1) = 1; sleeper(0, 2) = 0; sleeper(0, 3) = -1
        sleeper(0, -1) = -1; sleeper(1, 0) = 2; sleeper(1, 1) = -1; sleeper(2, 0) = -1; handle(0, 5) = 3
        handle(1, 5) = 1; counter(0, true) = 2; sleeper(2, 0) = -1
        """);
  }

  private static void waking() {
    run(28, "what is told of a task", """
        set() = 0; counter(0, false) = 1; add(0, 1, 1, 1) = 1; task(0, 2) = 0; await(0, 0, 3, 9) = -2; twin(0) = 2
        close(0) = 1; task(0, 1) = 2; task(0, 7) = 9; write(1, 1) = 1; task(0, 0) = 0; task(0, 1) = -1; task(0, 2) = 1
        task(0, 3) = 1; task(0, 4) = 1; task(0, 5) = 0; task(0, 6) = 0; task(0, 7) = -1; task(0, 8) = 0
        task(0, 9) = 0; task(0, 10) = -1; task(0, -1) = -1; task(-1, 0) = -1; task(6, 0) = -1; task(MAX, 0) = -1
        await(0, 2, 1, 1) = -2; task(0, 2) = 0; tick(1) = 1; task(0, 6) = 1; task(0, 3) = 1; task(0, 4) = 1
        plan(0, 0, 0, 0) = 1; task(0, 8) = 1; round(0, true) = 1; task(0, 9) = 1
        """);
    run(28, "woken, and got none", """
        set() = 0; set() = 1; counter(0, false) = 2; add(0, 1, 1, 0) = 1; add(1, 2, 1, 1) = 1; await(0, 0, 1, 5) = -2
        await(1, 1, 1, 0) = -2; write(2, 1) = 1; task(1, 4) = 1; task(0, 5) = 1; task(0, 0) = 1; task(0, 7) = 5
        listed(0) = 0; sleeper(0, 0) = 0; interest(0, 0, 7) = 1; interest(0, 0, 8) = 0; write(2, 1) = 1
        task(0, 4) = 1; got(0, 0, 0) = 1
        """);
    run(28, "the next sleeper, as long as there is more", """
        set() = 0; counter(0, false) = 1; counter(0, false) = 2; counter(0, false) = 3; add(0, 1, 1, 0) = 1
        add(0, 2, 1, 0) = 2; set() = 4; add(4, 0, 1, 1) = 1
        await(0, 0, 2, 0) = -2; await(1, 0, 1, 0) = -2; await(2, 0, 1, 0) = -2; await(3, 0, 1, 0) = -2
        write(1, 1) = 1; about(3) = 14; write(2, 1) = 1
        about(3) = 0; got(1, 0, 0) = 1; got(2, 0, 0) = 2; got(3, 0, 0) = 1; shown(0, 0) = 2; shown(0, 1) = 1
        """);
    run(28, "not for those that it listed again itself", """
        set() = 0; counter(0, false) = 1; counter(0, false) = 2; add(0, 1, 1, 0) = 1; add(0, 2, 1, 0) = 2
        await(0, 0, 1, 0) = -2; write(1, 1) = 1; await(0, 0, 1, 0) = 1; read(1, 1) = 1; await(0, 0, 2, 0) = -2
        await(1, 0, 2, 0) = -2; write(1, 1) = 1; about(3) = 2; task(1, 5) = 0; listed(0) = 1
        """);
    run(29, "got", """
        set() = 0; counter(1, false) = 1; counter(1, false) = 2; add(0, 2, 3, 0) = 1; add(0, 1, 1, 0) = 2
        collect(5, 0, 8) = 2; got(5, 0, 0) = 2; got(5, 0, 1) = 3; got(5, 1, 0) = 1; got(5, 1, 1) = 1
        got(5, 2, 0) = -1; got(5, -1, 0) = -1; got(5, 0, 2) = -1; got(5, 0, -1) = -1; got(6, 0, 0) = -1
        got(-1, 0, 0) = -1; collect(5, 0, 1) = 1; got(5, 1, 0) = -1; read(2, 1) = 1; read(1, 1) = 1
        change(0, 2, 1, 0) = 1; collect(5, 0, 8) = 0; got(5, 0, 0) = -1
        """);
    run(30, "wakes", """
        set() = 0; counter(0, false) = 1; pipe(1) = 2; add(0, 1, 1, 1) = 1; add(0, 2, 1, 1) = 2; wakes(1) = 0
        await(3, 0, 1, 0) = -2; await(4, 0, 1, 0) = -2; wakes(1) = 8; wakes(3) = 8; wakes(2) = 0; wakes(0) = 0
        wakes(4) = -1; wakes(-1) = -1; wakes(16) = -1; handle(1, 1) = 0; about(3) = 24; about(4) = 7
        write(3, 1) = 1; about(3) = 16; wakes(3) = 0; close(2) = 1; wakes(3) = 0
        """);
    run(30, "several, and sets in sets", """
        set() = 0; set() = 1; counter(0, false) = 2; twin(2) = 3; add(0, 1, 1, 0) = 1; add(1, 2, 1, 0) = 1
        add(1, 3, 1, 0) = 2; await(0, 0, 1, 0) = -2; await(1, 1, 1, 0) = -2; await(2, 1, 1, 0) = -2
        wakes(2) = 7; write(3, 1) = 1; about(3) = 0; got(1, 0, 0) = 2; got(2, 0, 0) = 2; got(0, 0, 0) = 1
        """);
    run(30, "one that is ALONE is passed over", """
        counter(0, true) = 0; set() = 1; set() = 2; set() = 3; set() = 4; add(1, 0, 1, 4) = 1; add(2, 0, 1, 4) = 1
        add(3, 0, 1, 0) = 1; add(4, 0, 1, 4) = 1; await(1, 2, 1, 0) = -2; await(2, 3, 1, 0) = -2
        await(3, 4, 1, 0) = -2; wakes(0) = 6; calls(0, 1) = 30; write(0, 1) = 1; about(3) = 8; listed(1) = 1
        listed(4) = 0; interest(1, 0, 7) = 1; interest(4, 0, 7) = 0; write(0, 1) = 1; about(3) = 0
        """);
  }

  private static void asking() {
    run(20, "what is told of a handle", """
        pipe(9) = 0; counter(4, true) = 2; timer() = 3; set() = 4; listener(3, 8) = 5; connect(5) = 6; write(1, 2) = 2
        arm(3, 2, 1) = 1; tick(3) = 3; add(4, 0, 1, 0) = 1; add(4, 2, 0, 0) = 2; twin(2) = 7
        handle(0, 0) = 0; handle(1, 0) = 1; handle(2, 0) = 2; handle(3, 0) = 3; handle(4, 0) = 4; handle(5, 0) = 5
        handle(0, 1) = 2; handle(1, 1) = 2; handle(2, 1) = 4; handle(3, 1) = 2; handle(4, 1) = 2; handle(5, 1) = 1
        handle(0, 2) = 1; handle(1, 2) = 2; handle(2, 2) = 3; handle(3, 2) = 1; handle(4, 2) = 1; handle(5, 2) = 1
        handle(0, 3) = 1; handle(2, 3) = 2; handle(7, 3) = 2; handle(0, 4) = 1; handle(1, 4) = 0; handle(7, 4) = 1
        handle(0, 5) = 9; handle(1, 5) = 9; handle(2, 5) = 1; handle(3, 5) = 4; handle(4, 5) = 0; handle(5, 5) = 3
        handle(0, 6) = -1; handle(0, -1) = -1; handle(8, 0) = -1; handle(-1, 0) = -1; handle(16, 0) = -1
        close(0) = 1; handle(1, 1) = 2; handle(1, 2) = 8
        """);
    run(35, "soon", """
        set() = 0; timer() = 1; add(0, 1, 1, 0) = 1; soon(0) = -1; arm(1, 100, 0) = 1; soon(0) = 100; about(2) = 0
        arm(1, 101, 0) = 1; soon(0) = -1; tick(1) = 1; soon(0) = 101; tick(99) = 100; soon(0) = 101; tick(1) = 101
        soon(0) = 101; tick(5) = 106; soon(0) = 106; read(1, 1) = 1; soon(0) = -1; soon(1) = -1; soon(5) = -1
        soon(-1) = -1; set() = 2; add(2, 0, 1, 0) = 1; arm(1, 7, 0) = 1; soon(2) = 113; soon(0) = 113; about(4) = 12
        """);
    run(35, "a sleeper is WOKEN, also if it gets none", """
        set() = 0; set() = 1; timer() = 2; add(0, 1, 1, 0) = 1; add(1, 2, 1, 1) = 1; arm(2, 5, 0) = 1; soon(0) = 5
        await(0, 1, 1, 0) = -2; soon(1) = 5; soon(0) = -1; await(1, 0, 1, 0) = -2; soon(0) = 5
        await(2, 0, 1, 3) = -2; soon(0) = 5; about(3) = 7
        """);
    run(36, "calls", """
        set() = 0; set() = 1; set() = 2; counter(0, true) = 3; add(0, 1, 1, 0) = 1; add(1, 3, 1, 0) = 1
        add(2, 3, 2, 0) = 1; calls(3, 1) = 3; calls(3, 2) = 4; calls(3, 4) = 7; calls(3, 8) = 7; calls(3, 0) = -1
        calls(3, 3) = -1; calls(3, 16) = -1; calls(3, -1) = -1; calls(4, 1) = -1; calls(-1, 1) = -1; calls(1, 1) = 1
        calls(0, 1) = 0; interest(1, 0, 7) = 0; listed(0) = 0; twin(1) = 4; close(1) = 1; calls(3, 1) = 17
        about(4) = 9
        """);
    run(36, "only those that are armed", """
        set() = 0; counter(1, true) = 1; add(0, 1, 1, 2) = 1; calls(1, 1) = 1; collect(0, 0, 1) = 1; calls(1, 1) = 0
        change(0, 1, 0, 0) = 1; calls(1, 1) = 0; calls(1, 4) = 1
        """);
    run(36, "who is ALONE counts only if a sleeper got some, as all is now", """
        counter(1, true) = 0; set() = 1; set() = 2; add(1, 0, 1, 5) = 1; add(2, 0, 1, 5) = 1; collect(0, 1, 1) = 1
        collect(0, 2, 1) = 1; calls(0, 1) = 6; await(0, 1, 1, 0) = -2; calls(0, 1) = 2; calls(0, 2) = 0
        read(0, 1) = 1; calls(0, 1) = 6
        """);
    run(44, "about", """
        set() = 0; listener(2, 2) = 1; connect(1) = 2; add(0, 1, 1, 1) = 1; add(0, 2, 2, 1) = 2; collect(4, 0, 8) = 2
        await(4, 0, 1, 0) = -2; tick(2) = 2; about(0) = 7; about(1) = 2; about(2) = 2; about(3) = 16; about(4) = 8
        about(5) = 0; about(6) = 4; undo() = 1; about(4) = 7; about(5) = 1; about(2) = 0; about(7) = -1
        about(-1) = -1; about(MAX) = -1
        """);
  }

  private static void programs() {
    run(31, "plan", """
        plan(0, 0, 0, 0) = 1; plan(0, 7, MIN, MAX) = 2; plan(0, 8, 0, 0) = -1; plan(0, -1, 0, 0) = -1
        plan(6, 0, 0, 0) = -1; plan(-1, 0, 0, 0) = -1; plan(0, 1, 0, 0) = 3; plan(0, 2, 0, 0) = 4
        plan(0, 3, 0, 0) = -1; plan(5, 0, 0, 0) = 1; task(0, 8) = 4; about(4) = 5
        """);
    run(32, "round", """
        round(0, false) = 0; round(0, true) = 1; round(0, true) = 0; task(0, 9) = 1; round(6, true) = 0
        round(-1, true) = 0; about(4) = 1; counter(0, false) = 0; plan(0, 0, 0, 1) = 1; plan(0, 0, 0, 10) = 2
        plan(0, 1, 0, 1) = 3; step(0) = 1; task(0, 8) = 3; step(0) = 10; step(0) = 11; step(0) = 1; step(0) = 10
        round(0, false) = 1; task(0, 9) = 0; step(0) = 11; task(0, 8) = 2; step(0) = 1; step(0) = 10; step(0) = -4
        """);
    run(33, "rounds", """
        rounds(0) = -1; rounds(51) = -1; rounds(MIN) = -1; about(4) = 0; rounds(50) = 0; about(4) = 1
        counter(0, false) = 0; plan(3, 0, 0, 1) = 1; plan(1, 0, 0, 2) = 1; plan(1, 1, 0, 1) = 2; rounds(1) = 2
        handle(0, 1) = 3; task(1, 8) = 1; rounds(9) = 1; handle(0, 1) = 0; about(4) = 7; undo() = 1; undo() = 1
        handle(0, 1) = 0; task(1, 8) = 2; redo() = 1; handle(0, 1) = 3
        """);
    run(33, "by numbers, and not those asleep then", """
        set() = 0; counter(0, false) = 1; add(0, 1, 1, 1) = 1; plan(0, 3, 0, 1) = 1; plan(0, 4, 1, 0) = 2
        plan(1, 0, 1, 1) = 1; plan(2, 3, 0, 1) = 1; rounds(1) = 3; task(0, 4) = 1; task(2, 0) = 1; task(0, 8) = 1
        rounds(1) = 1; about(0) = 1; rounds(50) = 0; round(3, true) = 1; plan(3, 2, 0, 1) = 1; rounds(50) = 50
        """);
    run(33, "a task that is woken in the round still goes", """
        set() = 0; counter(0, false) = 1; add(0, 1, 1, 1) = 1; await(4, 0, 1, 0) = -2; plan(4, 1, 1, 1) = 1
        plan(5, 1, 1, 1) = 1; plan(3, 0, 1, 7) = 1; rounds(1) = 3; handle(1, 1) = 0; task(4, 8) = 0
        """);
    run(34, "stuck", """
        set() = 0; counter(0, false) = 1; add(0, 1, 1, 1) = 1; plan(0, 3, 0, 1) = 1; stuck() = 1; about(3) = 0
        plan(1, 0, 1, 1) = 1; stuck() = 0; plan(1, 3, 0, 1) = 2; stuck() = 2; about(2) = 0; about(4) = 6
        timer() = 2; add(0, 2, 1, 1) = 2; arm(2, 60, 0) = 1; stuck() = 0; arm(2, 61, 0) = 1; stuck() = 2
        await(5, 0, 1, 60) = -2; stuck() = 3; tick(1) = 1; about(2) = 1; handle(1, 1) = 0; task(1, 8) = 2
        """);
    run(34, "sixty rounds", """
        set() = 0; counter(0, true) = 1; counter(59, true) = 2; round(0, true) = 1; plan(0, 1, 2, 1) = 1
        add(0, 2, 1, 0) = 1; round(1, true) = 1; plan(1, 3, 0, 1) = 1; stuck() = 2; write(2, 1) = 1; stuck() = 2
        write(2, 1) = 1; stuck() = 0
        """);
    run(39, "forget", """
        forget(0) = -1; forget(6) = -1; forget(-1) = -1; plan(0, 0, 0, 0) = 1; plan(0, 0, 0, 0) = 2; forget(0) = 2
        forget(0) = -1; task(0, 8) = 0; about(4) = 3; undo() = 1; task(0, 8) = 2; plan(0, 0, 0, 0) = 3
        """);
    run(40, "each operation", """
        set() = 0; counter(5, false) = 1; listener(2, 4) = 2; add(0, 1, 1, 2) = 1
        plan(0, 0, 1, 7) = 1; plan(0, 2, 0, 3) = 2; plan(0, 1, 1, 1) = 3; plan(0, 5, 0, 1) = 4
        step(0) = 7; step(0) = 1; interest(0, 0, 3) = 0; step(0) = 12; step(0) = 1; interest(0, 0, 3) = 1; listed(0) = 0
        plan(0, 7, 2, 0) = 1; plan(0, 6, 2, 0) = 2; plan(0, 6, 2, 0) = 3; plan(0, 4, 4, 0) = 4
        step(0) = 3; step(0) = 4; step(0) = -2; step(0) = 1; handle(3, 2) = 8; step(0) = -4
        plan(0, 3, 0, 1) = 1; plan(0, 3, 0, 1) = 2; step(0) = -2; step(0) = -3; task(0, 8) = 1; about(4) = 12
        write(1, 1) = 1; task(0, 4) = 1; change(0, 1, 1, 0) = 1; step(0) = 1; step(0) = -4; step(6) = -4; step(-1) = -4
        """);
    run(40, "whatever comes of it", """
        plan(0, 0, 3, 1) = 1; plan(0, 4, 3, 0) = 2; plan(0, 5, 0, 0) = 3; plan(0, 2, 0, 1) = 4; step(0) = -1
        step(0) = 0; step(0) = 0; step(0) = -1; about(4) = 8; task(0, 8) = 0; pipe(1) = 0; plan(0, 0, 1, 1) = 1
        plan(0, 0, 1, 1) = 2; plan(0, 6, 1, 0) = 3; plan(0, 3, MIN, MAX) = 4; step(0) = 1; step(0) = 0; step(0) = -1
        step(0) = -1; undo() = 1; task(0, 8) = 1; close(0) = 1; plan(0, 0, 1, 1) = 2; step(0) = -1; step(0) = -2
        """);
    run(40, "an interest is armed, and its set called", """
        set() = 0; counter(5, false) = 1; add(0, 1, 1, 2) = 1; collect(1, 0, 1) = 1; await(1, 0, 1, 0) = -2
        plan(0, 5, 0, 1) = 1; step(0) = 1; about(3) = 0; interest(0, 0, 3) = 0; interest(0, 0, 8) = 2
        """);
    run(41, "what can't be", """
        orders(0, 0, 0) = -1; orders(0, 6, 0) = -1; orders(-1, 0, 0) = -1; orders(0, 1, 5) = -1; orders(0, 1, -1) = -1
        orders(0, 1, 0) = 1; orders(0, 1, 3) = 0; orders(0, 1, 4) = 0; round(1, true) = 1; orders(0, 1, 0) = -1
        orders(1, 0, 0) = -1; orders(0, 2, 0) = 1; about(4) = 1
        """);
    run(41, "seventy orders", """
        counter(0, false) = 0; plan(0, 0, 0, 1) = 1; plan(0, 0, 0, 1) = 2; plan(0, 0, 0, 1) = 3; plan(0, 0, 0, 1) = 4
        plan(1, 1, 0, 1) = 1; plan(1, 1, 0, 1) = 2; plan(1, 1, 0, 1) = 3; orders(0, 1, 0) = 35
        plan(1, 1, 0, 1) = 4; orders(0, 1, 0) = 70; orders(1, 0, 0) = 70; orders(0, 1, 1) = 0; handle(0, 1) = 0
        about(4) = 9; orders(0, 2, 0) = 1
        """);
    run(41, "a wake that is lost", """
        set() = 0; counter(0, false) = 1; add(0, 1, 1, 2) = 1; plan(0, 2, 0, 1) = 1; plan(0, 3, 0, 1) = 2
        plan(1, 0, 1, 1) = 1
        orders(0, 1, 0) = 3; orders(0, 1, 1) = 1; orders(0, 1, 2) = 0; orders(0, 1, 3) = 1; orders(0, 1, 4) = 1
        """);
    run(41, "asleep while the set shows some", """
        set() = 0; counter(0, false) = 1; add(0, 1, 1, 4) = 1; set() = 2; add(2, 1, 1, 0) = 1; await(5, 0, 1, 0) = -2
        plan(0, 0, 1, 1) = 1; plan(1, 3, 0, 1) = 1; orders(0, 1, 0) = 2; orders(0, 1, 1) = 1; orders(0, 1, 2) = 1
        orders(0, 1, 3) = 0; orders(0, 1, 4) = 1; await(4, 0, 1, 0) = -2; orders(0, 1, 1) = 1
        """);
    run(41, "what was got before does not count", """
        set() = 0; counter(1, false) = 1; add(0, 1, 1, 0) = 1; collect(0, 0, 1) = 1; collect(1, 0, 1) = 1
        plan(0, 2, 0, 1) = 1; plan(1, 1, 1, 1) = 1; orders(0, 1, 3) = 0; orders(0, 1, 4) = 1; orders(1, 0, 4) = 1
        """);
  }

  private static void takingBack() {
    run(37, "image", """
        image(0) = 0; image(1) = 0; image(2) = -1; image(-1) = -1; image(MAX) = -1; image(32) = -1; back(32) = -1; back(-32) = -1; back(MIN) = -1; listener(2, 2) = 0; connect(0) = 1
        image(1) = 3; about(4) = 2; undo() = 1; image(0) = 1; redo() = 1; about(6) = 3
        """);
    run(38, "back", """
        back(0) = -1; back(1) = -1; back(2) = -1; back(-1) = -1; set() = 0; counter(3, true) = 1; add(0, 1, 1, 0) = 1
        await(2, 0, 1, 5) = 1; plan(2, 1, 1, 1) = 1; round(2, true) = 1; tick(3) = 3; image(1) = 2; back(0) = -1
        about(4) = 7; close(1) = 1; tick(9) = 12; set() = 1; forget(2) = 1; undo() = 1; back(1) = 2; about(4) = 0
        about(5) = 0; undo() = 0; redo() = 0; about(2) = 3; handle(1, 0) = 2; shown(0, 0) = 1; task(2, 8) = 1
        task(2, 9) = 1; task(2, 3) = 1; step(2) = 1; handle(1, 1) = 2; undo() = 1; handle(1, 1) = 3; back(1) = 2
        redo() = 0; set() = 2; about(4) = 1; back(1) = 2; about(0) = 3
        """);
    run(38, "two boxes", """
        set() = 0; image(0) = 1; set() = 1; image(1) = 2; back(0) = 1; back(1) = 2; back(0) = 1; image(1) = 1
        set() = 1; set() = 2; back(1) = 1; about(0) = 1
        """);
    run(42, "undo", """
        undo() = 0; counter(3, false) = 0; write(0, 4) = 4; read(0, 1) = 7; read(0, 1) = 0; write(0, 101) = -1
        undo() = 1; handle(0, 1) = 7; undo() = 1; handle(0, 1) = 3; undo() = 1; about(0) = 0; undo() = 0; about(5) = 3
        """);
    run(42, "12 at most", "counter(0, false) = 0\n" + "write(0, 1) = 1\n".repeat(14) + "about(4) = 12\n"
        + "undo() = 1\n".repeat(12) + "undo() = 0; handle(0, 1) = 2; about(5) = 12\n" + "redo() = 1\n".repeat(12)
        + "redo() = 0; handle(0, 1) = 14; about(4) = 12; about(5) = 0\n");
    run(42, "a wake is taken back whole", """
        set() = 0; set() = 1; counter(0, false) = 2; add(0, 1, 1, 1) = 1; add(1, 2, 1, 2) = 1; await(0, 0, 1, 4) = -2
        await(1, 1, 1, 0) = -2; tick(1) = 1; write(2, 1) = 1; task(1, 4) = 1; undo() = 1; task(1, 4) = 0
        about(3) = 3; interest(1, 0, 3) = 1; interest(1, 0, 7) = 0; task(0, 5) = 0; task(0, 7) = 4; got(1, 0, 0) = -1
        sleeper(0, 0) = 0; sleeper(1, 0) = 1
        """);
    run(43, "redo", """
        redo() = 0; counter(3, false) = 0; redo() = 0; write(0, 4) = 4; undo() = 1; undo() = 1; redo() = 1
        handle(0, 1) = 3; redo() = 1; handle(0, 1) = 7; redo() = 0; undo() = 1; about(5) = 1; write(0, 101) = -1
        handle(0, 1) = 3; wakes(0) = 0; about(5) = 1; write(0, 1) = 1; about(5) = 0; redo() = 0; handle(0, 1) = 4
        """);
    run(43, "to collect, also to get none, is an act", """
        set() = 0; counter(3, false) = 1; undo() = 1; about(5) = 1; collect(0, 0, 1) = 0; about(5) = 0; about(4) = 2
        """);
  }
}
