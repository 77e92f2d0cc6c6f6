/** Boundary cases of the promises 1 to 14: handles, what they name, bytes and time. */
public final class BoundaryHandlesTest extends Edges {
  public static void main(String[] args) {
    nothing();
    pipes();
    counters();
    timersAndSets();
    listeners();
    connecting();
    accepting();
    twins();
    closing();
    closingListeners();
    closingEnds();
    writing();
    writingCounters();
    reading();
    readingCountersAndTimers();
    behindAnother();
    arming();
    ticking();
    end(1, 14);
  }

  private static void nothing() {
    edge(1, "No HANDLES are there.", each(0, 15, "handle(@, 0) = -1; close(@) = 0; other(@) = -1")
        + "about(0) = 0; about(6) = 0; about(1) = 0; set() = 0; about(0) = 1");
    edge(1, "A HANDLE (0 .. 15; a new one is the lowest that is not there)", each(0, 15, "counter(@, true) = @") + """
        about(0) = 65535; timer() = -1; close(12) = 1; close(3) = 1; close(15) = 1; timer() = 3; set() = 12; twin(0) = 15
        timer() = -1; handle(3, 0) = 3; handle(12, 0) = 4; handle(15, 0) = 2; handle(14, 1) = 14
        """);
    edge(1, "There are six TASKS (0 .. 5), none asleep at first.", each(0, 5, """
        task(@, 0) = 0; task(@, 1) = -1; task(@, 2) = 0; task(@, 3) = 0; task(@, 4) = 0; task(@, 5) = 0
        task(@, 6) = 0; task(@, 7) = -1; task(@, 8) = 0; task(@, 9) = 0; got(@, 0, 0) = -1
        """) + "about(3) = 0; task(6, 0) = -1; task(-1, 0) = -1");
    edge(1, "TIME is 0 at first.", "about(2) = 0; tick(1) = 1; about(2) = 1");
    edge(1, "UNDO takes back the latest ACT that was not", """
        undo() = 0 !; redo() = 0 !; about(4) = 0; about(5) = 0; back(0) = -1 !; back(1) = -1 !
        """);
  }

  private static void pipes() {
    edge(2, "A PIPE with a room (1 .. 100)", """
        pipe(1) = 0; handle(0, 5) = 1; handle(1, 5) = 1; write(1, 100) = 1; write(1, 1) = 0
        pipe(100) = 2; handle(2, 5) = 100; handle(3, 5) = 100; write(3, 99) = 99; write(3, 99) = 1; write(3, 1) = 0
        """);
    edge(2, "the HANDLE of its READING END, the lowest that is not there; that of its WRITING END is the next lowest", """
        set() = 0; set() = 1; set() = 2; set() = 3; set() = 4; close(1) = 1; close(3) = 1
        pipe(7) = 1; handle(1, 0) = 0; handle(3, 0) = 1; other(1) = 3; other(3) = 1
        pipe(7) = 5; handle(5, 0) = 0; handle(6, 0) = 1; close(0) = 1; pipe(7) = 0; other(0) = 7
        """);
    edge(2, "A PIPE holds bytes, up to its room", """
        pipe(5) = 0; handle(0, 1) = 0; write(1, 5) = 5; close(0) = 1; close(1) = 1
        pipe(3) = 0; handle(0, 1) = 0; handle(1, 1) = 0; handle(0, 2) = 0; handle(1, 2) = 2; write(1, 9) = 3
        """);
    StringBuilder eight = new StringBuilder();
    for (int k = 1; k <= 8; k++) {
      eight.append("pipe(" + (k + 9) + ") = " + (2 * k - 2) + "; write(" + (2 * k - 1) + ", " + k + ") = " + k + "\n");
    }
    for (int k = 1; k <= 8; k++) {
      eight.append("handle(" + (2 * k - 2) + ", 1) = " + k + "; handle(" + (2 * k - 1) + ", 5) = " + (k + 9) + "\n");
    }
    edge(2, "A PIPE holds bytes, up to its room", eight.toString());
    edge(2, "NONE, doing nothing, if there are not two", each(0, 13, "set() = @") + """
        pipe(1) = 14; close(15) = 1; pipe(1) = -1 !   # one is left
        set() = 15; pipe(1) = -1 !                    # none is left
        close(0) = 1; close(14) = 1; pipe(1) = 0; other(0) = 14; pipe(1) = -1 !
        """);
    edge(2, "NONE, doing nothing, .. or it can't have that room", """
        set() = 0; set() = 1; undo() = 1; pipe(0) = -1 !; pipe(101) = -1 !; pipe(-1) = -1 !; pipe(MAX) = -1 !
        pipe(MIN) = -1 !; about(0) = 1; redo() = 1
        """);
  }

  private static void counters() {
    edge(3, "A COUNTER of a value (0 .. 1000)", """
        counter(0, true) = 0; counter(1000, true) = 1; counter(0, false) = 2; counter(1000, false) = 3
        handle(0, 1) = 0; handle(1, 1) = 1000; handle(2, 1) = 0; handle(3, 1) = 1000; handle(0, 0) = 2
        """);
    edge(3, "by ones or not", """
        counter(7, true) = 0; counter(7, false) = 1; handle(0, 5) = 1; handle(1, 5) = 0; read(0, 1) = 1; read(1, 1) = 7
        close(0) = 1; counter(7, false) = 0; handle(0, 5) = 0; read(0, 1) = 7
        """);
    edge(3, "A COUNTER of a value (0 .. 1000), by ones or not", each(0, 15, "counter(@, true) = @")
        + each(0, 15, "handle(@, 1) = @; handle(@, 5) = 1"));
    edge(3, "NONE, doing nothing, if it can't be", """
        timer() = 0; timer() = 1; undo() = 1; counter(-1, true) = -1 !; counter(1001, true) = -1 !
        counter(-1, false) = -1 !; counter(1001, false) = -1 !; counter(MAX, true) = -1 !; counter(MIN, false) = -1 !
        """);
    edge(3, "NONE, doing nothing, if it can't be", each(0, 15, "timer() = @") + """
        counter(0, true) = -1 !; close(15) = 1; counter(0, true) = 15; counter(0, true) = -1 !
        """);
    edge(3, "COUNTER: IN if it is above 0, OUT if it is below 1,000", """
        counter(0, true) = 0; counter(1, true) = 1; counter(999, true) = 2; counter(1000, true) = 3
        handle(0, 2) = 2; handle(1, 2) = 3; handle(2, 2) = 3; handle(3, 2) = 1
        """);
  }

  private static void timersAndSets() {
    edge(4, "A TIMER, which is not set", """
        timer() = 0; handle(0, 5) = -1; handle(0, 1) = 0; handle(0, 2) = 0; tick(100) = 100; handle(0, 1) = 0
        arm(0, 1, 1) = 1; tick(2) = 102; close(0) = 1; timer() = 0; handle(0, 5) = -1; handle(0, 1) = 0
        handle(0, 2) = 0; tick(100) = 202; handle(0, 1) = 0
        """);
    edge(4, "A TIMER, which is not set: its HANDLE", each(0, 15, "timer() = @; handle(@, 5) = -1; arm(@, 10, 20) = 1")
        + each(0, 15, "handle(@, 5) = 10") + "tick(9) = 9\n" + each(0, 15, "handle(@, 1) = 0") + "tick(1) = 10\n"
        + each(0, 15, "handle(@, 1) = 1; handle(@, 5) = 30"));
    edge(4, "NONE, doing nothing, if there is none left", each(0, 14, "set() = @") + """
        timer() = 15; timer() = -1 !; close(7) = 1; timer() = 7; timer() = -1 !
        """);
    edge(5, "A SET: its HANDLE", """
        set() = 0; handle(0, 0) = 4; handle(0, 1) = 0; handle(0, 2) = 0; handle(0, 5) = 0; listed(0) = 0; depth(0) = 1
        counter(1, true) = 1; add(0, 1, 1, 0) = 1; collect(0, 0, 1) = 1; change(0, 1, 0, 0) = 1
        await(0, 0, 1, 0) = -2; close(0) = 1; set() = 0; handle(0, 1) = 0; listed(0) = 0; sleeper(0, 0) = -1
        """);
    edge(5, "NONE, doing nothing, if there is none left", each(0, 14, "timer() = @") + """
        set() = 15; set() = -1 !; close(0) = 1; set() = 0; set() = -1 !
        """);
  }

  private static void listeners() {
    edge(6, "A LISTENER with a backlog (1 .. 12)", "listener(1, 5) = 0; handle(0, 5) = 1; connect(0) = 1; connect(0) = -2");
    edge(6, "A LISTENER with a backlog (1 .. 12)", "listener(12, 5) = 0; handle(0, 5) = 12\n"
        + each(1, 12, "connect(0) = @") + "connect(0) = -2; handle(0, 1) = 12");
    StringBuilder twelve = new StringBuilder();
    for (int h = 0; h < 12; h++) twelve.append("listener(" + (h + 1) + ", " + (h + 50) + ") = " + h + "\n");
    for (int h = 0; h < 12; h++) twelve.append("handle(" + h + ", 5) = " + (h + 1) + "; handle(" + h + ", 1) = 0\n");
    edge(6, "A LISTENER with a backlog (1 .. 12), at which PIPES of a room", twelve + """
        connect(3) = 12; handle(12, 5) = 53; connect(11) = 13; handle(13, 5) = 61; connect(0) = 14; connect(0) = -2
        """);
    edge(6, "at which PIPES of a room (1 .. 100) are made", """
        listener(3, 1) = 0; listener(3, 100) = 1; connect(0) = 2; connect(1) = 3; handle(2, 5) = 1; handle(3, 5) = 100
        write(2, 100) = 1; write(3, 100) = 100; write(3, 1) = 0; accept(0) = 4; accept(1) = 5; handle(4, 5) = 1
        handle(5, 5) = 100; read(5, 100) = 100
        """);
    edge(6, "NONE, doing nothing, if that can't be", """
        set() = 0; set() = 1; undo() = 1; listener(0, 5) = -1 !; listener(13, 5) = -1 !; listener(-1, 5) = -1 !
        listener(MAX, 5) = -1 !; listener(MIN, 5) = -1 !; listener(5, 0) = -1 !; listener(5, 101) = -1 !
        listener(5, -1) = -1 !; listener(5, MAX) = -1 !; listener(5, MIN) = -1 !; listener(5, 5) = 1
        """);
    edge(6, "NONE, doing nothing, .. or there is none left", each(0, 15, "listener(2, 2) = @") + """
        listener(2, 2) = -1 !; close(4) = 1; listener(2, 2) = 4
        """);
    edge(6, "LISTENER: IN if some wait at it", """
        listener(2, 2) = 0; handle(0, 2) = 0; connect(0) = 1; handle(0, 2) = 1; accept(0) = 2; handle(0, 2) = 0
        connect(0) = 3; close(0) = 1; listener(2, 2) = 0; handle(0, 1) = 0; handle(0, 2) = 0; accept(0) = -2
        """);
  }

  private static void connecting() {
    edge(7, "its READING END waits there, behind the others", """
        listener(3, 5) = 0; connect(0) = 1; connect(0) = 2; other(1) = -1; handle(0, 1) = 2; accept(0) = 3
        connect(0) = 4; accept(0) = 5; accept(0) = 6; other(3) = 1; other(5) = 2; other(6) = 4
        """);
    edge(7, "the HANDLE of its WRITING END", """
        listener(3, 5) = 0; set() = 1; set() = 2; close(1) = 1; connect(0) = 1; handle(1, 0) = 1; connect(0) = 3
        handle(1, 1) = 0; handle(1, 2) = 2
        """);
    edge(7, "then a NOTICE of IN goes out at the LISTENER", """
        listener(3, 5) = 0; set() = 1; add(1, 0, 1, 1) = 1; await(0, 1, 1, 0) = -2; connect(0) = 2; task(0, 4) = 1
        got(0, 0, 0) = 0; got(0, 0, 1) = 1; listed(1) = 0; connect(0) = 3; listed(1) = 1; interest(1, 0, 7) = 2
        """);
    edge(7, "a NOTICE of IN goes out at the LISTENER", """
        listener(3, 5) = 0; set() = 1; add(1, 0, 2, 0) = 1; connect(0) = 2; listed(1) = 0; interest(1, 0, 7) = 0
        change(1, 0, 0, 0) = 1; connect(0) = 3; listed(1) = 0; change(1, 0, 1, 0) = 1; listed(1) = 1
        connect(0) = 4; interest(1, 0, 7) = 1
        """);
    edge(7, "NONE, doing nothing, if a HANDLE is not there", """
        listener(3, 5) = 0; set() = 1; close(1) = 1; connect(1) = -1 !; connect(15) = -1 !; connect(16) = -1 !
        connect(-1) = -1 !; connect(MAX) = -1 !; connect(MIN) = -1 !
        """);
    edge(7, "NONE, doing nothing, .. or names no LISTENER", """
        pipe(5) = 0; counter(5, true) = 2; timer() = 3; set() = 4; listener(5, 5) = 5
        connect(0) = -1 !; connect(1) = -1 !; connect(2) = -1 !; connect(3) = -1 !; connect(4) = -1 !; connect(5) = 6
        """);
    edge(7, "NONE, doing nothing, .. or there is none left", "listener(3, 5) = 0\n" + each(1, 14, "set() = @") + """
        connect(0) = 15; connect(0) = -1 !; close(3) = 1; connect(0) = 3; connect(0) = -1 !
        """);
    edge(7, "or there is none left; else -2", "listener(1, 5) = 0; connect(0) = 1\n" + each(2, 14, "set() = @")
        + "connect(0) = -2; set() = 15; connect(0) = -1 !");
    edge(7, "else -2, doing nothing, if as many as its backlog wait there", """
        listener(2, 5) = 0; listener(1, 5) = 1; connect(0) = 2; connect(1) = 3; connect(0) = 4; connect(0) = -2 !
        connect(1) = -2 !; accept(0) = 5; connect(0) = 6; connect(0) = -2 !; handle(0, 1) = 2
        """);
    edge(7, "else -2, doing nothing, .. or 12 at all", "listener(12, 5) = 0; listener(12, 5) = 1\n"
        + each(2, 8, "connect(0) = @") + each(9, 13, "connect(1) = @") + """
        connect(0) = -2 !; connect(1) = -2 !; handle(0, 1) = 7; handle(1, 1) = 5; about(6) = 26; accept(1) = 14
        connect(0) = 15; about(6) = 28; close(14) = 1; connect(0) = -2; connect(1) = -2; close(0) = 1; connect(1) = 0
        """);
    edge(7, "at all LISTENERS together at most 12", "set() = 0; listener(12, 5) = 1; listener(12, 5) = 2; close(0) = 1\n"
        + "connect(1) = 0\n" + each(3, 13, "connect(2) = @") + "connect(1) = -2 !; connect(2) = -2 !; accept(1) = 14; connect(2) = 15");
    edge(7, "they are not GONE as long as they wait", """
        listener(1, 5) = 0; connect(0) = 1; about(6) = 3; handle(1, 2) = 2; write(1, 9) = 5; write(1, 1) = 0
        handle(1, 2) = 0; close(1) = 1; about(6) = 2; accept(0) = 1; about(6) = 2; handle(1, 2) = 5; read(1, 9) = 5
        read(1, 9) = -2; close(1) = 1; about(6) = 1
        """);
  }

  private static void accepting() {
    edge(8, "Who waited longest at a LISTENER waits no more", """
        listener(3, 5) = 0; listener(3, 5) = 1; connect(0) = 2; connect(1) = 3; connect(0) = 4; connect(1) = 5
        accept(1) = 6; other(6) = 3; handle(1, 1) = 1; handle(0, 1) = 2; accept(0) = 7; other(7) = 2; accept(0) = 8
        other(8) = 4; accept(1) = 9; other(9) = 5; handle(0, 1) = 0; handle(1, 1) = 0
        """);
    edge(8, "Who waited longest at a LISTENER", """
        set() = 0; set() = 1; listener(3, 5) = 2; connect(2) = 3; close(1) = 1; connect(2) = 1; close(0) = 1; connect(2) = 0
        accept(2) = 4; other(4) = 3; accept(2) = 5; other(5) = 1; accept(2) = 6; other(6) = 0   # not the lowest HANDLE
        """);
    edge(8, "waits no more: a HANDLE that names it", """
        listener(3, 5) = 0; set() = 1; add(1, 0, 3, 1) = 1; connect(0) = 2; connect(0) = 3; collect(0, 1, 1) = 1
        accept(0) = 4; listed(1) = 0; interest(1, 0, 7) = 2; handle(0, 2) = 1; accept(0) = 5; interest(1, 0, 7) = 2
        handle(0, 2) = 0; interest(1, 0, 5) = 0   # no NOTICE goes out
        """);
    edge(8, "a HANDLE that names it", """
        listener(3, 5) = 0; connect(0) = 1; set() = 2; set() = 3; close(2) = 1; accept(0) = 2; handle(2, 0) = 0
        handle(2, 3) = 1; about(6) = 4
        """);
    edge(8, "NONE, doing nothing, if a HANDLE is not there or names no LISTENER", """
        pipe(5) = 0; counter(5, true) = 2; timer() = 3; set() = 4; listener(5, 5) = 5; connect(5) = 6
        accept(0) = -1 !; accept(1) = -1 !; accept(2) = -1 !; accept(3) = -1 !; accept(4) = -1 !; accept(7) = -1 !
        accept(15) = -1 !; accept(16) = -1 !; accept(-1) = -1 !; accept(MAX) = -1 !; accept(MIN) = -1 !; accept(5) = 7
        """);
    edge(8, "NONE, doing nothing, .. or there is none left", "listener(3, 5) = 0; connect(0) = 1\n"
        + each(2, 15, "set() = @") + "accept(0) = -1 !; handle(0, 1) = 1; close(9) = 1; accept(0) = 9; other(9) = 1");
    edge(8, "or there is none left; else -2", "listener(3, 5) = 0\n" + each(1, 15, "set() = @")
        + "accept(0) = -1 !; close(9) = 1; accept(0) = -2 !");
    edge(8, "else -2, doing nothing, if none waits", """
        listener(3, 5) = 0; accept(0) = -2 !; connect(0) = 1; undo() = 1; accept(0) = -2 !; redo() = 1; accept(0) = 2
        accept(0) = -2 !; listener(3, 5) = 3; connect(3) = 4; accept(0) = -2 !; timer() = 5; arm(5, 1, 1) = 1; tick(3) = 3
        accept(0) = -2 !; accept(3) = 6; accept(3) = -2 !
        """);
  }

  private static void twins() {
    edge(9, "One more HANDLE for the OBJECT of one: it", """
        pipe(5) = 0; counter(5, true) = 2; timer() = 3; set() = 4; listener(5, 5) = 5; twin(0) = 6; twin(1) = 7
        twin(2) = 8; twin(3) = 9; twin(4) = 10; twin(5) = 11; about(6) = 6; handle(6, 0) = 0; handle(7, 0) = 1
        handle(8, 0) = 2; handle(9, 0) = 3; handle(10, 0) = 4; handle(11, 0) = 5; handle(0, 3) = 2; handle(11, 3) = 2
        close(1) = 1; twin(6) = 1; handle(1, 3) = 3; other(1) = 7
        """);
    edge(9, "NONE, doing nothing, if there is none such", """
        twin(0) = -1 !; set() = 0; set() = 1; close(1) = 1; twin(1) = -1 !; twin(15) = -1 !; twin(16) = -1 !
        twin(-1) = -1 !; twin(MAX) = -1 !; twin(MIN) = -1 !
        """);
    edge(9, "NONE, doing nothing, .. or none left", "set() = 0\n" + each(1, 15, "twin(0) = @") + """
        handle(15, 3) = 16; twin(0) = -1 !; twin(15) = -1 !; close(0) = 1; twin(15) = 0; about(6) = 1
        """);
  }

  private static void closing() {
    edge(10, "A HANDLE is closed: true; false if there is none such.", """
        close(0) = 0 !; set() = 0; close(1) = 0 !; close(15) = 0 !; close(16) = 0 !; close(-1) = 0 !; close(MAX) = 0 !
        close(MIN) = 0 !; close(0) = 1; close(0) = 0 !; about(0) = 0; about(4) = 2
        """);
    edge(10, "Several HANDLES can name the same OBJECT; when its last one is closed, it is GONE.", """
        set() = 0; counter(0, true) = 1; add(0, 1, 1, 0) = 1; twin(0) = 2; twin(1) = 3; await(0, 0, 1, 0) = -2
        close(0) = 1; close(1) = 1; about(6) = 2; about(3) = 1; about(1) = 1; task(0, 1) = 2; write(3, 1) = 1
        task(0, 4) = 1; got(0, 0, 0) = 1; close(3) = 1; about(6) = 1; about(1) = 0; close(2) = 1; about(6) = 0
        """);
    edge(10, "first its INTERESTS are there no more", """
        set() = 0; set() = 1; counter(1, false) = 2; add(0, 2, 1, 0) = 1; add(1, 2, 1, 0) = 1; set() = 3
        add(0, 3, 1, 0) = 2; close(2) = 1; about(1) = 1; listed(0) = 0; listed(1) = 0; handle(1, 1) = 0
        interest(0, 0, 0) = 3; close(3) = 1; about(1) = 0; depth(0) = 1
        """);
    edge(10, "first its INTERESTS are there no more; .. then, of a PIPE's end, a NOTICE of ENDED", """
        set() = 0; pipe(5) = 1; add(0, 1, 1, 0) = 1; add(0, 2, 0, 0) = 2; await(0, 0, 8, 0) = -2; await(1, 0, 8, 0) = -2
        write(2, 1) = 1; about(3) = 2; shown(0, 0) = 1  # the closed end is listed while task 1 sleeps
        close(1) = 1; task(1, 4) = 1; task(1, 2) = 1; got(1, 0, 0) = 2; got(1, 0, 1) = 8
        """);
    edge(10, "An INTEREST whose OBJECT is GONE, or whose SET is, is there no more.", """
        set() = 0; set() = 1; counter(1, false) = 2; add(0, 1, 1, 0) = 1; add(1, 2, 1, 0) = 1; add(0, 2, 1, 0) = 2
        twin(1) = 3; close(1) = 1; about(1) = 3; shows(0) = 2; interest(0, 0, 6) = 0; close(3) = 1; about(1) = 1
        shows(0) = 1; shown(0, 0) = 2; handle(2, 4) = 1; close(0) = 1; about(1) = 0; handle(2, 4) = 0
        """);
    edge(10, "then, of a SET, those that it holds", """
        set() = 0; counter(1, false) = 1; pipe(5) = 2; add(0, 1, 1, 0) = 1; add(0, 2, 1, 0) = 2; set() = 4
        add(4, 1, 1, 0) = 1; handle(1, 4) = 2; close(0) = 1; about(1) = 1; handle(1, 4) = 1; handle(2, 4) = 0
        interest(4, 0, 0) = 1; write(1, 1) = 1; write(3, 1) = 1; interest(4, 0, 7) = 1
        """);
    edge(10, "and its sleepers sleep no more", """
        set() = 0; set() = 1; counter(1, false) = 2; add(0, 2, 1, 0) = 1; collect(4, 0, 1) = 1; drop(0, 2) = 1
        await(4, 0, 1, 0) = -2; await(2, 0, 1, 9) = -2; await(3, 1, 1, 9) = -2; close(0) = 1; about(3) = 8
        task(4, 0) = 0; task(4, 1) = -1; task(4, 2) = 0; task(4, 3) = 1; task(4, 4) = 0; task(4, 5) = 0; task(4, 6) = 1
        task(2, 6) = 1; task(2, 7) = -1; task(3, 6) = 0; got(4, 0, 0) = -1; task(3, 1) = 1
        tick(9) = 9; task(2, 6) = 1; task(3, 6) = 1
        """);
  }

  private static void closingListeners() {
    edge(10, "of a LISTENER, the READING ENDS that wait there are GONE", "listener(12, 3) = 0\n"
        + each(1, 12, "connect(0) = @") + "about(6) = 25; close(0) = 1; about(6) = 12\n"
        + each(1, 12, "handle(@, 2) = 8; write(@, 1) = -2"));
    edge(10, "of a LISTENER, the READING ENDS that wait there are GONE", """
        pipe(5) = 0; listener(3, 3) = 2; close(2) = 1; other(0) = 1; other(1) = 0; handle(0, 2) = 0; handle(1, 2) = 2
        listener(3, 3) = 2; connect(2) = 3; close(2) = 1; other(0) = 1; handle(0, 2) = 0; handle(3, 2) = 8; write(1, 1) = 1
        """);
    edge(10, "of a LISTENER, the READING ENDS that wait there are GONE", """
        listener(3, 3) = 0; listener(3, 3) = 1; connect(0) = 2; connect(1) = 3; close(1) = 1; handle(2, 2) = 2
        handle(3, 2) = 8; accept(0) = 1; other(1) = 2; close(0) = 1; handle(2, 2) = 2
        """);
    edge(10, "who waited longest first, each with a NOTICE of BROKEN at its WRITING END", """
        listener(3, 5) = 0; connect(0) = 1; connect(0) = 2; connect(0) = 3; set() = 4; accept(0) = 5; connect(0) = 6
        add(4, 6, 0, 0) = 1; add(4, 3, 0, 0) = 2; add(4, 2, 0, 0) = 3; add(4, 1, 0, 0) = 4; listed(4) = 0; close(0) = 1
        listed(4) = 3; shown(4, 0) = 2; shown(4, 1) = 3; shown(4, 2) = 6; interest(4, 0, 7) = 1; interest(4, 2, 7) = 1
        """);
    edge(10, "who waited longest first", """
        set() = 0; listener(3, 5) = 1; connect(1) = 2; close(0) = 1; connect(1) = 0; set() = 3; add(3, 0, 0, 0) = 1
        add(3, 2, 0, 0) = 2; close(1) = 1; shown(3, 0) = 2; shown(3, 1) = 0
        """);
    // The second end still waits when the first one's NOTICE goes out: task 1 gets OUT of it then.
    edge(10, "who waited longest first, each with a NOTICE of BROKEN at its WRITING END", """
        listener(2, 5) = 0; connect(0) = 1; connect(0) = 2; set() = 3; add(3, 1, 0, 0) = 1; await(0, 3, 8, 0) = -2
        await(1, 3, 8, 0) = -2; add(3, 2, 2, 0) = 2; about(3) = 2; close(0) = 1; task(1, 2) = 2; got(1, 0, 0) = 2
        got(1, 0, 1) = 2; got(1, 1, 0) = 1; got(1, 1, 1) = 8; handle(2, 2) = 8
        """);
    edge(10, "a NOTICE of BROKEN at its WRITING END, if that is not GONE", """
        listener(2, 5) = 0; connect(0) = 1; connect(0) = 2; close(1) = 1; set() = 1; add(1, 2, 0, 0) = 1; about(6) = 5
        close(0) = 1; about(6) = 2; listed(1) = 1; interest(1, 0, 7) = 1
        """);
  }

  private static void closingEnds() {
    edge(10, "a NOTICE of ENDED (it was the WRITING END) .. goes out at the other end", """
        set() = 0; pipe(5) = 1; add(0, 1, 0, 0) = 1; add(0, 2, 0, 0) = 2; await(0, 0, 8, 0) = -2; write(2, 1) = 1
        about(3) = 1; close(2) = 1; about(3) = 0; got(0, 0, 0) = 1; got(0, 0, 1) = 4; task(0, 2) = 1
        handle(1, 2) = 5; interest(0, 0, 7) = 1
        """);
    edge(10, "or BROKEN goes out at the other end", """
        set() = 0; pipe(5) = 1; add(0, 2, 0, 0) = 1; add(0, 1, 0, 0) = 2; await(0, 0, 8, 0) = -2; close(1) = 1
        about(3) = 0; got(0, 0, 0) = 2; got(0, 0, 1) = 8; task(0, 2) = 1; handle(2, 2) = 8; interest(0, 0, 7) = 1
        """);
    edge(10, "goes out at the other end, if that is not GONE", """
        pipe(5) = 0; close(0) = 1; close(1) = 1; about(6) = 0; pipe(5) = 0; close(1) = 1; close(0) = 1; about(6) = 0
        pipe(5) = 0; close(0) = 1; set() = 0; counter(0, true) = 2; add(0, 2, 1, 0) = 1; close(1) = 1; listed(0) = 0
        interest(0, 0, 7) = 0
        """);
    edge(10, "If its OBJECT is GONE by that", """
        set() = 0; pipe(5) = 1; twin(1) = 3; twin(2) = 4; add(0, 1, 0, 0) = 1; add(0, 2, 0, 0) = 2; close(2) = 1
        close(1) = 1; listed(0) = 0; handle(3, 2) = 0; handle(4, 2) = 2; about(1) = 2; other(3) = 4; other(4) = 3
        close(4) = 1; listed(0) = 1; handle(3, 2) = 4; about(1) = 1
        """);
    edge(10, "If its OBJECT is GONE by that", """
        listener(2, 5) = 0; twin(0) = 1; connect(0) = 2; close(0) = 1; handle(2, 2) = 2; handle(1, 1) = 1; close(1) = 1
        handle(2, 2) = 8; timer() = 0; twin(0) = 1; arm(0, 2, 0) = 1; close(0) = 1; tick(2) = 2; handle(1, 1) = 1
        """);
  }

  private static void writing() {
    edge(11, "n (1 .. 100) are written.", """
        pipe(100) = 0; write(1, 1) = 1; handle(0, 1) = 1; pipe(100) = 2; write(3, 100) = 100; handle(2, 1) = 100
        counter(0, true) = 4; write(4, 1) = 1; write(4, 100) = 100; handle(4, 1) = 101
        """);
    edge(11, "NONE, doing nothing, for others, another n.", """
        pipe(100) = 0; set() = 2; add(2, 0, 1, 0) = 1; undo() = 1; write(1, 0) = -1 !; write(1, 101) = -1 !
        write(1, -1) = -1 !; write(1, MAX) = -1 !; write(1, MIN) = -1 !
        """);
    edge(11, "NONE, doing nothing, for others, another n.", """
        counter(5, true) = 0; set() = 1; add(1, 0, 1, 1) = 1; undo() = 1; write(0, 0) = -1 !; write(0, 101) = -1 !
        write(0, -1) = -1 !; write(0, MAX) = -1 !; write(0, MIN) = -1 !
        """);
    edge(11, "NONE, doing nothing, for others, another n.", """
        pipe(5) = 0; timer() = 2; set() = 3; listener(5, 5) = 4; write(0, 1) = -1 !; write(2, 1) = -1 !
        write(3, 1) = -1 !; write(4, 1) = -1 !; write(5, 1) = -1 !; write(15, 1) = -1 !; write(16, 1) = -1 !
        write(-1, 1) = -1 !; write(MAX, 1) = -1 !; write(MIN, 1) = -1 !
        """);
    edge(11, "NONE, doing nothing, for others", "set() = 0; pipe(5) = 1; counter(5, true) = 3\n" + each(4, 9, "twin(2) = @")
        + each(10, 15, "twin(3) = @") + "close(4) = 1; close(10) = 1; write(4, 1) = -1 !; write(10, 1) = -1 !; read(10, 1) = -1 !");
    edge(11, "NONE, doing nothing, for others", "set() = 0; set() = 1; counter(5, true) = 2\n" + each(3, 15, "twin(2) = @")
        + "close(4) = 1; write(4, 1) = -1 !; read(4, 1) = -1 !; arm(4, 1, 1) = 0 !; connect(4) = -1 !; accept(4) = -1 !");
    edge(11, "another n.", """
        pipe(1) = 0; write(1, 1) = 1; write(1, 0) = -1; write(1, 101) = -1; close(0) = 1; write(1, 0) = -1 !
        write(1, 101) = -1 !; counter(1000, true) = 0; write(0, 101) = -1 !; write(0, 0) = -1 !
        """);
    edge(11, "as many as there is room for: how many", """
        pipe(10) = 0; write(1, 9) = 9; handle(1, 2) = 2; write(1, 2) = 1; handle(1, 1) = 10; handle(1, 2) = 0
        read(0, 3) = 3; write(1, 3) = 3; read(0, 100) = 10; write(1, 11) = 10; handle(0, 1) = 10
        """);
    edge(11, "then a NOTICE of IN at the READING END", """
        set() = 0; pipe(10) = 1; add(0, 1, 1, 1) = 1; add(0, 2, 1, 1) = 2; add(0, 1, 2, 1) = -2; write(2, 1) = 1
        interest(0, 0, 7) = 1; interest(0, 1, 7) = 0; collect(0, 0, 1) = 1; write(2, 1) = 1; listed(0) = 1
        interest(0, 0, 7) = 2; change(0, 1, 2, 1) = 1; write(2, 1) = 1; interest(0, 0, 7) = 2
        """);
    edge(11, "0, doing nothing, if there is no room", """
        set() = 0; pipe(2) = 1; add(0, 1, 1, 1) = 1; write(2, 2) = 2; collect(0, 0, 1) = 1; set() = 3; undo() = 1
        write(2, 1) = 0 !; write(2, 100) = 0 !; listed(0) = 0; interest(0, 0, 7) = 1
        """);
    edge(11, "-2, doing nothing, if the READING END is GONE", """
        pipe(2) = 0; write(1, 1) = 1; twin(0) = 2; close(0) = 1; write(1, 1) = 1; read(2, 1) = 1; close(2) = 1
        set() = 0; undo() = 1; write(1, 1) = -2 !; write(1, 100) = -2 !; handle(1, 1) = 1
        """);
    // Full and GONE at once: read as -2.
    edge(11, "-2, doing nothing, if the READING END is GONE", """
        pipe(2) = 0; write(1, 2) = 2; close(0) = 1; write(1, 1) = -2 !; handle(1, 1) = 2
        """);
  }

  private static void writingCounters() {
    edge(11, "COUNTER: it is n more: n, then a NOTICE of IN", """
        set() = 0; counter(899, false) = 1; add(0, 1, 1, 1) = 1; collect(0, 0, 1) = 1; write(1, 100) = 100; listed(0) = 1
        handle(1, 1) = 999; write(1, 1) = 1; handle(1, 1) = 1000; interest(0, 0, 7) = 2; change(0, 1, 2, 0) = 1
        read(1, 1) = 1000; write(1, 1) = 1; interest(0, 0, 7) = 3  # OUT by reading; IN is not wanted then
        """);
    edge(11, "a COUNTER 0 .. 1,000", """
        counter(1000, true) = 0; write(0, 1) = 0 !; read(0, 1) = 1; write(0, 2) = 0 !; write(0, 1) = 1; handle(0, 1) = 1000
        counter(0, false) = 1; read(1, 1) = 0 !; handle(1, 1) = 0
        """);
    edge(11, "0, doing nothing, if that were above 1,000.", """
        set() = 0; counter(950, true) = 1; add(0, 1, 1, 1) = 1; collect(0, 0, 1) = 1; set() = 2; undo() = 1
        write(1, 51) = 0 !; write(1, 100) = 0 !; write(1, 50) = 50; handle(1, 1) = 1000; write(1, 1) = 0 !
        handle(1, 2) = 1; interest(0, 0, 7) = 1
        """);
  }

  private static void reading() {
    edge(12, "Up to n (1 .. 100) are read.", """
        pipe(100) = 0; write(1, 100) = 100; read(0, 1) = 1; handle(0, 1) = 99; write(1, 1) = 1; read(0, 100) = 100
        handle(0, 1) = 0
        """);
    edge(12, "NONE, doing nothing, for others, another n.", """
        set() = 0; pipe(5) = 1; write(2, 5) = 5; add(0, 2, 2, 0) = 1; read(1, 0) = -1 !; read(1, 101) = -1 !
        read(1, -1) = -1 !; read(1, MAX) = -1 !; read(1, MIN) = -1 !; read(1, 5) = 5; read(1, 0) = -1 !
        close(2) = 1; read(1, 101) = -1 !; read(1, 1) = -2
        """);
    edge(12, "NONE, doing nothing, for others, another n.", """
        counter(5, false) = 0; timer() = 1; arm(1, 1, 0) = 1; tick(1) = 1; read(0, 0) = -1 !; read(0, 101) = -1 !
        read(0, -1) = -1 !; read(0, MAX) = -1 !; read(1, 0) = -1 !; read(1, 101) = -1 !; read(1, -1) = -1 !
        read(1, MIN) = -1 !; read(1, 1) = 1; read(1, 0) = -1 !
        """);
    edge(12, "NONE, doing nothing, for others, another n.", """
        pipe(5) = 0; set() = 2; listener(5, 5) = 3; connect(3) = 4; write(1, 1) = 1; read(1, 1) = -1 !; read(2, 1) = -1 !
        read(3, 1) = -1 !; read(4, 1) = -1 !; read(5, 1) = -1 !; read(15, 1) = -1 !; read(16, 1) = -1 !
        read(-1, 1) = -1 !; read(MAX, 1) = -1 !; read(MIN, 1) = -1 !
        """);
    edge(12, "as many as are there: how many", """
        pipe(10) = 0; write(1, 7) = 7; read(0, 7) = 7; write(1, 7) = 7; read(0, 8) = 7; write(1, 7) = 7; read(0, 6) = 6
        handle(0, 1) = 1; handle(0, 2) = 1; read(0, 100) = 1; handle(0, 2) = 0
        """);
    edge(12, "then a NOTICE of OUT at the WRITING END", """
        set() = 0; pipe(9) = 1; write(2, 5) = 5; add(0, 2, 2, 1) = 1; add(0, 1, 2, 1) = 2; collect(0, 0, 1) = 1
        read(1, 1) = 1; listed(0) = 1; interest(0, 0, 7) = 1; interest(0, 1, 7) = 0; change(0, 2, 1, 1) = 1
        read(1, 1) = 1; interest(0, 0, 7) = 1
        """);
    edge(12, "(if it is not GONE)", """
        pipe(9) = 0; write(1, 5) = 5; close(1) = 1; set() = 1; add(1, 0, 3, 1) = 1; collect(0, 1, 1) = 1
        read(0, 2) = 2; listed(1) = 0; interest(1, 0, 7) = 0; handle(0, 1) = 3; read(0, 3) = 3; handle(0, 2) = 4
        """);
    edge(12, "if none are there, doing nothing, 0", """
        set() = 0; pipe(9) = 1; add(0, 2, 2, 1) = 1; collect(0, 0, 1) = 1; read(1, 1) = 0 !; write(2, 1) = 1
        read(1, 1) = 1; collect(0, 0, 1) = 1; read(1, 100) = 0 !; listed(0) = 0
        """);
    edge(12, "or -2, if the WRITING END is GONE", """
        pipe(9) = 0; twin(1) = 2; close(1) = 1; read(0, 1) = 0 !; write(2, 1) = 1; close(2) = 1; read(0, 1) = 1
        set() = 1; undo() = 1; read(0, 1) = -2 !; read(0, 100) = -2 !
        """);
  }

  private static void readingCountersAndTimers() {
    edge(12, "COUNTER (n up to 100 does not matter): 1 less, if by ones, else all: how many", """
        counter(1000, false) = 0; read(0, 1) = 1000; handle(0, 1) = 0; counter(1000, true) = 1; read(1, 100) = 1
        handle(1, 1) = 999; counter(101, false) = 2; read(2, 100) = 101; counter(1, true) = 3; read(3, 1) = 1
        handle(3, 1) = 0; counter(1, false) = 4; read(4, 100) = 1
        """);
    edge(12, "how many, then a NOTICE of OUT; 0, doing nothing, if it is 0.", """
        set() = 0; counter(2, true) = 1; counter(1000, false) = 2; add(0, 1, 2, 1) = 1; add(0, 2, 2, 1) = 2
        collect(0, 0, 8) = 1; read(1, 1) = 1; listed(0) = 1; read(1, 1) = 1; interest(0, 0, 7) = 2; read(1, 1) = 0 !
        read(2, 100) = 1000; interest(0, 1, 7) = 1; read(2, 100) = 0 !; interest(0, 1, 7) = 1; interest(0, 0, 7) = 2
        """);
    edge(12, "TIMER: how often it fired (0 then); 0, doing nothing, if it did not.", """
        set() = 0; timer() = 1; add(0, 1, 3, 1) = 1; read(1, 1) = 0 !; arm(1, 2, 2) = 1; read(1, 1) = 0 !; tick(1) = 1
        read(1, 100) = 0 !; tick(100) = 101; collect(0, 0, 1) = 1; read(1, 1) = 50; handle(1, 1) = 0; handle(1, 2) = 0
        handle(1, 5) = 102; listed(0) = 0; interest(0, 0, 7) = 50; read(1, 1) = 0 !; tick(1) = 102; read(1, 1) = 1
        """);
  }

  /** What an OBJECT was that is GONE tells nothing of the one that comes behind it. */
  private static void behindAnother() {
    edge(12, "TIMER: how often it fired (0 then)", """
        counter(5, true) = 0; close(0) = 1; timer() = 0; arm(0, 1, 1) = 1; tick(3) = 3; read(0, 1) = 3; handle(0, 1) = 0
        close(0) = 1; counter(7, false) = 0; read(0, 1) = 7; handle(0, 5) = 0; tick(5) = 8; handle(0, 1) = 0
        """);
    edge(8, "else -2, doing nothing, if none waits", """
        set() = 0; listener(3, 5) = 1; timer() = 2; arm(2, 1, 1) = 1; accept(1) = -2 !; tick(3) = 3; accept(1) = -2 !
        handle(1, 1) = 0; close(2) = 1; connect(1) = 2; handle(2, 0) = 1; handle(2, 1) = 0; handle(2, 2) = 2
        """);
  }

  private static void arming() {
    edge(13, "it fires when so much TIME is over (1 .. 1000", "timer() = 0; timer() = 1; arm(0, 1, 0) = 1; arm(1, 1000, 0) = 1\n"
        + "handle(0, 5) = 1; handle(1, 5) = 1000; tick(1) = 1; handle(0, 1) = 1; handle(1, 1) = 0; tick(99) = 100\n"
        + each(2, 9, "tick(100) = @00") + "tick(99) = 999; handle(1, 1) = 0; tick(1) = 1000; handle(1, 1) = 1");
    edge(13, "0: it is not set any more", """
        timer() = 0; arm(0, 3, 3) = 1; arm(0, 0, 0) = 1; handle(0, 5) = -1; tick(9) = 9; handle(0, 1) = 0
        arm(0, 3, 3) = 1; tick(3) = 12; arm(0, 0, 5) = 1; handle(0, 5) = -1; handle(0, 1) = 0; tick(9) = 21
        handle(0, 1) = 0; handle(0, 2) = 0; about(4) = 8
        """);
    edge(13, "then each time so much is over again (1 .. 1000", "timer() = 0; timer() = 1; arm(0, 5, 1) = 1; arm(1, 1, 1000) = 1\n"
        + "tick(1) = 1; handle(1, 5) = 1001; tick(5) = 6; handle(0, 1) = 2; handle(0, 5) = 7; tick(94) = 100\n"
        + each(2, 10, "tick(100) = @00") + "handle(1, 1) = 1; tick(1) = 1001; handle(1, 1) = 2; handle(1, 5) = 2001");
    edge(13, "0: just once", """
        timer() = 0; arm(0, 5, 0) = 1; tick(4) = 4; handle(0, 1) = 0; tick(1) = 5; handle(0, 1) = 1; handle(0, 5) = -1
        tick(100) = 105; handle(0, 1) = 1; arm(0, 5, 3) = 1; arm(0, 2, 0) = 1; tick(100) = 205; handle(0, 1) = 1
        """);
    edge(13, "it did not fire so far then: true", """
        timer() = 0; arm(0, 1, 1) = 1; tick(5) = 5; handle(0, 1) = 5; handle(0, 2) = 1; arm(0, 9, 1) = 1; handle(0, 1) = 0
        handle(0, 2) = 0; handle(0, 5) = 14; tick(8) = 13; handle(0, 1) = 0; tick(1) = 14; handle(0, 1) = 1
        """);
    edge(13, "false, doing nothing, if it can't be.", """
        timer() = 0; arm(0, 3, 3) = 1; tick(4) = 4; set() = 1; undo() = 1; arm(0, -1, 0) = 0 !; arm(0, 1001, 0) = 0 !
        arm(0, 1, -1) = 0 !; arm(0, 1, 1001) = 0 !; arm(0, 0, 1001) = 0 !; arm(0, 0, -1) = 0 !; arm(0, MAX, 1) = 0 !
        arm(0, MIN, 1) = 0 !; arm(0, 1, MAX) = 0 !; arm(0, 1, MIN) = 0 !; handle(0, 1) = 1; handle(0, 5) = 6
        """);
    edge(13, "false, doing nothing, if it can't be.", """
        pipe(5) = 0; counter(5, true) = 2; set() = 3; listener(5, 5) = 4; arm(0, 1, 1) = 0 !; arm(1, 1, 1) = 0 !
        arm(2, 1, 1) = 0 !; arm(3, 1, 1) = 0 !; arm(4, 1, 1) = 0 !; arm(5, 1, 1) = 0 !; arm(15, 1, 1) = 0 !
        arm(16, 1, 1) = 0 !; arm(-1, 1, 1) = 0 !; arm(MAX, 1, 1) = 0 !; arm(MIN, 1, 1) = 0 !
        """);
    edge(13, "a TIMER how often it fired (1,000 at most)", "timer() = 0; set() = 1; arm(0, 1, 1) = 1\n"
        + each(1, 9, "tick(100) = @00") + """
        tick(99) = 999; handle(0, 1) = 999; tick(1) = 1000; handle(0, 1) = 1000; tick(1) = 1001; handle(0, 1) = 1000
        tick(50) = 1051; handle(0, 1) = 1000; handle(0, 5) = 1052; read(0, 1) = 1000; handle(0, 1) = 0; tick(2) = 1053
        handle(0, 1) = 2
        """);
  }

  private static void ticking() {
    edge(14, "TIME goes on by one, n times (1 .. 100)", "tick(1) = 1; about(2) = 1; tick(100) = 101; about(2) = 101; about(4) = 2");
    edge(14, "NONE, doing nothing, for another n", """
        timer() = 0; arm(0, 1, 1) = 1; set() = 1; await(0, 1, 1, 1) = -2; tick(1) = 1; undo() = 1; tick(0) = -1 !
        tick(101) = -1 !; tick(-1) = -1 !; tick(MAX) = -1 !; tick(MIN) = -1 !; about(2) = 0
        """);
    // TIME can't come near 100,000 within 512 calls of 100 at most: this goes as far as a run can.
    edge(14, "NONE, doing nothing, .. or if it would be above 100,000.", each(1, 510, "tick(100) = @00") + "tick(1) = 51001");
    edge(14, "in the order of the lowest HANDLES that name them, fire (a NOTICE of IN goes out at each one at once)", """
        set() = 0; timer() = 1; timer() = 2; timer() = 3; add(0, 1, 1, 1) = 1; add(0, 2, 1, 1) = 2; add(0, 3, 1, 1) = 3
        twin(1) = 4; close(1) = 1; twin(3) = 1; arm(4, 1, 0) = 1; arm(2, 1, 0) = 1; arm(3, 1, 0) = 1; tick(1) = 1
        shown(0, 0) = 3; shown(0, 1) = 2; shown(0, 2) = 1; handle(1, 1) = 1; handle(4, 1) = 1  # by 1, 2, 4
        """);
    edge(14, "(a NOTICE of IN goes out at each one at once)", """
        set() = 0; timer() = 1; add(0, 1, 2, 0) = 1; arm(1, 1, 1) = 1; tick(2) = 2; listed(0) = 0; interest(0, 0, 7) = 0
        change(0, 1, 0, 0) = 1; tick(2) = 4; listed(0) = 0; change(0, 1, 3, 0) = 1; tick(3) = 7; interest(0, 0, 7) = 3
        """);
    // At the first NOTICE the second timer has not fired, though it is on the LIST: task 1 gets the first one alone.
    edge(14, "(a NOTICE of IN goes out at each one at once)", """
        set() = 0; timer() = 1; timer() = 2; add(0, 2, 1, 0) = 1; add(0, 1, 1, 0) = 2; arm(2, 1, 0) = 1; tick(1) = 1
        await(0, 0, 8, 0) = 1; read(2, 1) = 1; listed(0) = 1; arm(1, 1, 0) = 1; arm(2, 1, 0) = 1; set() = 3
        add(3, 1, 1, 1) = 1; add(3, 2, 1, 1) = 2; await(1, 3, 8, 0) = -2; await(2, 3, 8, 0) = -2; tick(1) = 2
        task(1, 2) = 1; got(1, 0, 0) = 1; task(2, 2) = 1; got(2, 0, 0) = 2; shown(0, 0) = 2; shown(0, 1) = 1
        """);
    edge(14, "then TASKS whose waiting is over, by their numbers, sleep no more, and got nothing", """
        set() = 0; timer() = 1; add(0, 1, 1, 1) = 1; arm(1, 5, 0) = 1; await(3, 0, 1, 5) = -2; await(1, 0, 1, 5) = -2
        await(2, 0, 1, 6) = -2; tick(4) = 4; about(3) = 14; tick(1) = 5; about(3) = 4   # the timer goes ahead
        task(3, 2) = 1; task(3, 4) = 1; task(3, 6) = 0; task(3, 7) = -1; task(1, 2) = 0; task(1, 4) = 0; task(1, 6) = 1
        got(1, 0, 0) = -1; task(1, 7) = -1; tick(1) = 6; task(2, 6) = 1; about(3) = 0; sleeper(0, 0) = -1
        """);
  }
}
