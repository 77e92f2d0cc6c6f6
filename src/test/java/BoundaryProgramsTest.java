/** Boundary cases of the promises 31 to 44: programs, what would come, boxes, acts taken back and done again. */
public final class BoundaryProgramsTest extends Edges {
  public static void main(String[] args) {
    planning();
    goingRound();
    rounds();
    stuck();
    soon();
    calls();
    boxes();
    boxesWholly();
    forgetting();
    steps();
    operations();
    orders();
    ordersTold();
    undoing();
    acts();
    redoing();
    about();
    end(31, 44);
  }

  private static void planning() {
    edge(31, "A STEP is put behind a TASK's PROGRAM: how many STEPS are left", """
        counter(0, false) = 0; plan(5, 0, 0, 1) = 1; plan(5, 0, 0, 2) = 2; plan(5, 0, 0, 3) = 3; step(5) = 1
        plan(5, 0, 0, 4) = 3; step(5) = 2; step(5) = 3; step(5) = 4; step(5) = -4; plan(0, 0, 0, 1) = 1
        """);
    edge(31, "NONE, doing nothing, if there is no such TASK, operation", """
        set() = 0; set() = 1; undo() = 1; plan(-1, 0, 0, 0) = -1 !; plan(6, 0, 0, 0) = -1 !; plan(MAX, 0, 0, 0) = -1 !
        plan(MIN, 0, 0, 0) = -1 !; plan(0, -1, 0, 0) = -1 !; plan(0, 8, 0, 0) = -1 !; plan(0, MAX, 0, 0) = -1 !
        plan(0, MIN, 0, 0) = -1 !; plan(0, 0, 0, 0) = 1; plan(0, 7, MIN, MAX) = 2
        """);
    edge(31, "NONE, doing nothing, .. or 4 are left", """
        plan(0, 0, 0, 1) = 1; plan(0, 1, 0, 1) = 2; plan(0, 2, 0, 1) = 3; plan(0, 3, 0, 1) = 4; set() = 0; undo() = 1
        plan(0, 4, 0, 0) = -1 !; plan(1, 4, 0, 0) = 1; step(0) = -1; plan(0, 4, 0, 0) = 4; plan(0, 4, 0, 0) = -1 !
        """);
    edge(31, "A TASK has a PROGRAM of at most 4 STEPS, done one by one", """
        counter(0, false) = 0; plan(5, 0, 0, 4) = 1; plan(5, 0, 0, 3) = 2; plan(5, 0, 0, 2) = 3; plan(5, 0, 0, 1) = 4
        plan(5, 0, 0, 9) = -1; step(5) = 4; step(5) = 3; plan(5, 0, 0, 9) = 3; step(5) = 2; step(5) = 1; step(5) = 9
        step(5) = -4; handle(0, 1) = 19
        """);
    edge(31, "an operation 0 .. 7", each(0, 5, "plan(@, 4, 9, 0) = 1; plan(@, 0, 9, 0) = 2; plan(@, 7, 9, 0) = 3") + """
        set() = 0; await(0, 0, 1, 0) = -2; plan(0, 1, 0, 0) = 4   # one that sleeps can have a PROGRAM
        """);
  }

  private static void goingRound() {
    edge(32, "true; false, doing nothing, if there is none such, or it is so", """
        set() = 0; set() = 1; undo() = 1; round(0, false) = 0 !; round(6, true) = 0 !; round(-1, true) = 0 !
        round(6, false) = 0 !; round(MAX, true) = 0 !; round(MIN, false) = 0 !; round(0, true) = 1; round(0, true) = 0 !
        round(5, true) = 1; round(0, false) = 1; round(0, false) = 0 !; task(5, 9) = 1; about(4) = 4
        """);
    edge(32, "If it GOES ROUND (it does not, at first), a STEP that is done is put behind the others again.", """
        counter(0, false) = 0; plan(0, 0, 0, 1) = 1; plan(0, 0, 0, 2) = 2; plan(0, 0, 0, 3) = 3; plan(0, 0, 0, 4) = 4
        round(0, true) = 1; step(0) = 1; task(0, 8) = 4; step(0) = 2; step(0) = 3; step(0) = 4; step(0) = 1
        plan(0, 1, 0, 1) = -1; round(0, false) = 1; step(0) = 2; task(0, 8) = 3; step(0) = 3; step(0) = 4; step(0) = 1
        step(0) = -4; task(0, 9) = 0
        """);
    edge(32, "If it GOES ROUND", """
        round(0, true) = 1; step(0) = -4 !; counter(0, false) = 0; plan(0, 0, 0, 1) = 1; step(0) = 1; step(0) = 1
        plan(0, 1, 0, 1) = 2; step(0) = 1; step(0) = 3; step(0) = 1; task(0, 8) = 2; forget(0) = 2; task(0, 9) = 1
        """);
  }

  private static void rounds() {
    edge(33, "n (1 .. 50) times", """
        counter(0, true) = 0; round(0, true) = 1; plan(0, 0, 0, 1) = 1; rounds(1) = 1; handle(0, 1) = 1
        rounds(50) = 50; handle(0, 1) = 51; about(4) = 5; undo() = 1; handle(0, 1) = 1
        """);
    edge(33, "NONE, doing nothing, for another n.", """
        counter(0, true) = 0; round(0, true) = 1; plan(0, 0, 0, 1) = 1; set() = 1; undo() = 1; rounds(0) = -1 !
        rounds(51) = -1 !; rounds(-1) = -1 !; rounds(MAX) = -1 !; rounds(MIN) = -1 !; handle(0, 1) = 0
        """);
    edge(33, "how many STEPS were done (an ACT in any case)", """
        rounds(50) = 0; about(4) = 1; set() = 0; undo() = 1; rounds(1) = 0; about(4) = 2; about(5) = 0
        plan(0, 4, 9, 0) = 1; plan(3, 4, 9, 0) = 1; plan(3, 0, 9, 1) = 2; rounds(50) = 3; about(4) = 6
        """);
    edge(33, "each TASK, by numbers, that is not asleep then and has a STEP left does its next STEP", """
        set() = 0; counter(0, false) = 1; add(0, 1, 1, 1) = 1; await(1, 0, 1, 0) = -2; await(4, 0, 1, 0) = -2
        plan(1, 0, 1, 10) = 1; plan(2, 0, 1, 1) = 1; plan(4, 0, 1, 5) = 1; plan(5, 1, 1, 1) = 1; rounds(1) = 2
        handle(1, 1) = 0; task(1, 8) = 1; task(1, 4) = 1; task(4, 0) = 1   # 1 is woken behind its turn; 4 sleeps on
        rounds(1) = 2; task(4, 4) = 1; task(1, 8) = 0; task(4, 8) = 0; handle(1, 1) = 15; rounds(9) = 0
        """);
    edge(33, "that is not asleep then", """
        set() = 0; counter(0, false) = 1; add(0, 1, 1, 1) = 1; await(4, 0, 1, 0) = -2; plan(4, 0, 1, 5) = 1
        plan(2, 0, 1, 1) = 1; rounds(1) = 2; handle(1, 1) = 6; plan(0, 3, 0, 1) = 1; plan(0, 0, 1, 1) = 2
        collect(5, 0, 8) = 1; rounds(3) = 1; task(0, 8) = 1   # woken ahead of its turn; asleep by its own STEP
        """);
  }

  private static void stuck() {
    edge(34, "Were 60 times first one such round gone and then TIME on by one", """
        set() = 0; timer() = 1; add(0, 1, 1, 1) = 1; await(0, 0, 1, 0) = -2; stuck() = 1 !; arm(1, 60, 0) = 1
        stuck() = 0 !; arm(1, 61, 0) = 1; stuck() = 1 !; arm(1, 0, 0) = 1; await(1, 0, 1, 60) = -2; stuck() = 1 !
        await(2, 0, 1, 61) = -2; stuck() = 5 !
        """);
    edge(34, "60 times first one such round", """
        set() = 0; counter(60, true) = 1; round(0, true) = 1; plan(0, 1, 1, 1) = 1; add(0, 1, 1, 0) = 1
        round(5, true) = 1; plan(5, 3, 0, 1) = 1; stuck() = 32 !; write(1, 1) = 1; stuck() = 0 !   # 61 against 60
        """);
    // The round goes ahead of TIME: what is read in the first round is what fired so far.
    edge(34, "first one such round gone and then TIME on by one", """
        set() = 0; timer() = 1; add(0, 1, 1, 1) = 1; arm(1, 1, 0) = 1; plan(0, 3, 0, 1) = 1; plan(0, 3, 0, 1) = 2
        stuck() = 1; forget(0) = 2; plan(0, 1, 1, 1) = 1; plan(0, 3, 0, 1) = 2; stuck() = 0; tick(1) = 1; stuck() = 1
        """);
    edge(34, "TASKS that would be asleep then, as bits. (Nothing is done.)", """
        stuck() = 0 !; set() = 0; plan(0, 3, 0, 1) = 1; plan(2, 3, 0, 8) = 1; plan(5, 3, 0, 9) = 1; plan(4, 2, 0, 1) = 1
        plan(3, 4, 0, 0) = 1; stuck() = 0 !; forget(3) = 1; stuck() = 5 !; about(3) = 0; about(2) = 0; task(0, 8) = 1
        """);
    edge(34, "(not beyond 100,000)", each(1, 500, "tick(100) = @00") + "set() = 0; await(0, 0, 1, 60) = -2; stuck() = 0");
  }

  private static void soon() {
    edge(35, "TIME alone going on, by 100 at most, a SET would first SHOW some", """
        set() = 0; timer() = 1; add(0, 1, 1, 0) = 1; tick(7) = 7; arm(1, 100, 0) = 1; soon(0) = 107 !; arm(1, 101, 0) = 1
        soon(0) = -1 !; arm(1, 1, 0) = 1; soon(0) = 8 !; arm(1, 5, 1) = 1; soon(0) = 12 !; plan(0, 1, 1, 1) = 1
        soon(0) = 12; about(2) = 7
        """);
    edge(35, "TIME alone going on", """
        set() = 0; timer() = 1; counter(0, true) = 2; add(0, 1, 1, 0) = 1; add(0, 2, 1, 0) = 2; arm(1, 9, 0) = 1
        plan(0, 0, 2, 1) = 1; soon(0) = 9 !; rounds(1) = 1; soon(0) = 0 !   # no STEPS are done
        """);
    edge(35, "(now, if it SHOWS some)", """
        set() = 0; counter(1, false) = 1; timer() = 2; add(0, 2, 1, 0) = 1; arm(2, 3, 0) = 1; soon(0) = 3
        add(0, 1, 1, 1) = 2; soon(0) = 0 !; tick(2) = 2; soon(0) = 2 !; collect(0, 0, 1) = 1; soon(0) = 3 !
        write(1, 1) = 1; read(1, 1) = 2; listed(0) = 1; soon(0) = 3 !; tick(1) = 3; soon(0) = 3 !
        """);
    edge(35, "or a sleeper of it be WOKEN", """
        set() = 0; set() = 1; timer() = 2; add(0, 2, 1, 1) = 1; add(1, 0, 1, 1) = 1; arm(2, 9, 0) = 1; await(0, 0, 1, 0) = -2
        soon(0) = 9 !; soon(1) = -1 !; await(1, 1, 1, 0) = -2; soon(1) = 9 !; about(3) = 3   # woken, and got none
        """);
    edge(35, "or a sleeper of it be WOKEN", """
        set() = 0; timer() = 1; add(0, 1, 0, 0) = 1; arm(1, 9, 1) = 1; await(0, 0, 1, 3) = -2; soon(0) = -1 !
        change(0, 1, 1, 3) = 1; await(1, 0, 1, 0) = -2; soon(0) = 9 !; set() = 2; soon(2) = -1; await(2, 2, 1, 5) = -2
        soon(2) = -1 !   # whose time is over is not WOKEN
        """);
    edge(35, "NONE if not so soon (or beyond 100,000), or there is no such SET.", """
        set() = 0; timer() = 1; pipe(5) = 2; counter(0, true) = 4; listener(1, 1) = 5; soon(0) = -1 !; soon(1) = -1 !
        soon(2) = -1 !; soon(3) = -1 !; soon(4) = -1 !; soon(5) = -1 !; soon(6) = -1 !; soon(15) = -1 !; soon(16) = -1 !
        soon(-1) = -1 !; soon(MAX) = -1 !; soon(MIN) = -1 !
        """);
  }

  private static void calls() {
    edge(36, "SETS that would be CALLED, were there a NOTICE of a bit (1, 2, 4, 8) at a HANDLE's OBJECT", """
        set() = 0; set() = 1; set() = 2; set() = 3; counter(0, true) = 4; add(0, 4, 0, 0) = 1; add(1, 4, 1, 0) = 1
        add(2, 4, 2, 0) = 1; add(3, 4, 3, 0) = 1; calls(4, 1) = 10 !; calls(4, 2) = 12 !; calls(4, 4) = 15 !
        calls(4, 8) = 15 !; calls(0, 1) = 0 !
        """);
    edge(36, "NONE if there is none such, or no such bit. (Nothing is done.)", """
        set() = 0; counter(1, true) = 1; add(0, 1, 1, 1) = 1; collect(0, 0, 1) = 1; await(0, 0, 1, 0) = -2
        calls(1, 1) = 1 !; calls(1, 0) = -1 !; calls(1, 3) = -1 !; calls(1, 5) = -1 !; calls(1, 16) = -1 !
        calls(1, -1) = -1 !; calls(1, MAX) = -1 !; calls(1, MIN) = -1 !; calls(2, 1) = -1 !; calls(15, 1) = -1 !
        calls(16, 1) = -1 !; calls(-1, 1) = -1 !; calls(MAX, 1) = -1 !; calls(MIN, 1) = -1 !; about(3) = 1
        """);
    edge(36, "as bits of the lowest HANDLES that name them", each(0, 14, "set() = @") + """
        counter(0, true) = 15; add(14, 15, 1, 0) = 1; add(13, 14, 1, 0) = 1; add(12, 13, 1, 0) = 1
        calls(15, 1) = 28672; calls(14, 1) = 12288; calls(12, 1) = 0; close(0) = 1; twin(13) = 0; calls(15, 1) = 20481
        close(13) = 1; calls(15, 1) = 20481; calls(15, 4) = 20481; calls(14, 2) = 0; calls(14, 8) = 4097
        """);
    edge(36, "as bits of the lowest HANDLES that name them", each(0, 13, "counter(0, true) = @") + """
        set() = 14; set() = 15; add(15, 0, 1, 0) = 1; calls(0, 1) = 32768; add(14, 15, 1, 0) = 1; calls(0, 1) = 49152
        close(13) = 1; twin(15) = 13; calls(0, 1) = 24576
        """);
    edge(36, "SETS that would be CALLED", """
        counter(1, true) = 0; set() = 1; set() = 2; set() = 3; add(1, 0, 1, 7) = 1; add(2, 0, 1, 5) = 1
        add(3, 0, 1, 0) = 1; collect(0, 2, 1) = 1; calls(0, 1) = 14 !; await(0, 2, 1, 0) = -2; calls(0, 1) = 14 !
        collect(1, 1, 1) = 1; calls(0, 1) = 12 !; calls(0, 8) = 12 !   # ONCE, and got: 1 is not armed
        """);
    edge(36, "SETS that would be CALLED", """
        counter(1, true) = 0; set() = 1; set() = 2; add(1, 0, 1, 5) = 1; add(2, 0, 1, 4) = 1; collect(0, 1, 1) = 1
        await(0, 1, 1, 0) = -2; calls(0, 1) = 2 !; read(0, 1) = 1; calls(0, 1) = 6 !   # 2 is passed over, or not
        """);
  }

  private static void boxes() {
    edge(37, "how many OBJECTS are not GONE; NONE if there is none such.", """
        image(0) = 0; image(1) = 0; image(2) = -1 !; image(-1) = -1 !; image(MAX) = -1 !; image(MIN) = -1 !
        pipe(5) = 0; image(0) = 2; listener(2, 2) = 2; connect(2) = 3; image(1) = 5; close(3) = 1; image(1) = 4
        twin(2) = 3; image(1) = 4; image(32) = -1 !; image(33) = -1 !
        """);
    edge(37, "All is kept in a BOX", """
        set() = 0; set() = 1; undo() = 1; image(0) = 1; about(4) = 1; about(5) = 1; redo() = 1; about(6) = 2   # no ACT
        image(1) = 2; set() = 2; image(0) = 3; back(1) = 2; back(0) = 3
        """);
    edge(38, "NONE, doing nothing, if nothing was kept", """
        set() = 0; set() = 1; undo() = 1; back(0) = -1 !; back(1) = -1 !; image(1) = 1; back(0) = -1 !; redo() = 1
        back(1) = 1; back(0) = -1 !; image(0) = 1; back(0) = 1
        """);
    edge(38, "NONE, doing nothing, .. or there is no such BOX.", """
        image(0) = 0; image(1) = 0; set() = 0; set() = 1; undo() = 1; back(2) = -1 !; back(-1) = -1 !; back(MAX) = -1 !
        back(MIN) = -1 !; back(32) = -1 !; back(33) = -1 !; back(1) = 0
        """);
    edge(38, "All is as it was kept (nothing can be taken back, or done again then)", """
        set() = 0; image(0) = 1; set() = 1; set() = 2; undo() = 1; about(4) = 2; about(5) = 1; back(0) = 1; about(4) = 0
        about(5) = 0; undo() = 0; redo() = 0; about(0) = 1; set() = 1; about(4) = 1; undo() = 1; about(0) = 1; redo() = 1
        about(0) = 3; back(0) = 1; back(0) = 1; undo() = 0
        """);
    edge(38, "All is as it was kept", "image(0) = 0\n" + each(0, 14, "timer() = @") + """
        about(4) = 12; back(0) = 0; about(4) = 0; set() = 0; undo() = 1; about(0) = 0; undo() = 0
        """);
  }

  private static void boxesWholly() {
    edge(38, "Two BOXES (0, 1) keep all that there is but what UNDO, REDO keep.", """
        set() = 0; timer() = 1; counter(3, true) = 2; listener(2, 4) = 3; connect(3) = 4; write(4, 2) = 2
        add(0, 1, 1, 1) = 1; add(0, 2, 1, 2) = 2; collect(0, 0, 1) = 1; await(1, 0, 1, 9) = -2; arm(1, 5, 2) = 1
        tick(3) = 3; plan(2, 0, 2, 1) = 1; plan(2, 1, 2, 1) = 2; round(2, true) = 1; image(0) = 6; tick(9) = 12
        step(2) = 1; accept(3) = 5; drop(0, 2) = 1; close(1) = 1; close(0) = 1; forget(2) = 2; round(2, false) = 1
        back(0) = 6; about(2) = 3; about(3) = 2; task(1, 7) = 9; handle(1, 5) = 5; handle(2, 1) = 3; interest(0, 1, 3) = 0
        interest(0, 1, 8) = 1; got(0, 0, 0) = 2; task(2, 8) = 2; task(2, 9) = 1; accept(3) = 5; handle(5, 1) = 2
        tick(2) = 5; task(1, 4) = 1; handle(1, 5) = 7; step(2) = 1; step(2) = 1; step(2) = 1; handle(2, 1) = 4
        """);
  }

  private static void forgetting() {
    edge(39, "NONE if there is no such TASK, or none was.", """
        set() = 0; set() = 1; undo() = 1; forget(0) = -1 !; forget(5) = -1 !; forget(6) = -1 !; forget(-1) = -1 !
        forget(MAX) = -1 !; forget(MIN) = -1 !; plan(5, 0, 0, 0) = 1; forget(0) = -1 !; forget(5) = 1; forget(5) = -1 !
        """);
    edge(39, "A TASK's PROGRAM has no STEPS any more: how many were left", """
        plan(0, 4, 0, 0) = 1; plan(0, 4, 0, 0) = 2; plan(0, 4, 0, 0) = 3; plan(0, 4, 0, 0) = 4; plan(1, 4, 0, 0) = 1
        forget(0) = 4; task(0, 8) = 0; task(1, 8) = 1; step(0) = -4; plan(0, 0, 0, 0) = 1; undo() = 1; undo() = 1
        task(0, 8) = 4; step(0) = 0; forget(0) = 3; set() = 0; await(0, 0, 1, 0) = -2; plan(0, 4, 0, 0) = 1; forget(0) = 1
        """);
  }

  private static void steps() {
    edge(40, "-3, doing nothing, if the TASK is asleep", """
        set() = 0; plan(0, 3, 0, 1) = 1; plan(0, 4, 0, 0) = 2; step(0) = -2; step(0) = -3 !; task(0, 8) = 1; forget(0) = 1
        step(0) = -3 !; close(0) = 1; step(0) = -4 !
        """);
    edge(40, "-4, doing nothing, if none is left, or there is no such TASK.", """
        set() = 0; set() = 1; undo() = 1; step(0) = -4 !; step(5) = -4 !; step(6) = -4 !; step(-1) = -4 !; step(MAX) = -4 !
        step(MIN) = -4 !; plan(1, 4, 9, 0) = 1; step(0) = -4 !; step(1) = 0; step(1) = -4 !
        """);
    edge(40, "is done, and left no more (if it does not GO ROUND), whatever comes of it (also if it does nothing)", """
        plan(0, 0, 0, 1) = 1; plan(0, 4, 0, 0) = 2; plan(0, 3, 0, 1) = 3; step(0) = -1; task(0, 8) = 2; about(4) = 4
        step(0) = 0; task(0, 8) = 1; about(4) = 5; step(0) = -1; task(0, 8) = 0; about(4) = 6; undo() = 1; task(0, 8) = 1
        redo() = 1; task(0, 8) = 0; round(0, true) = 1; plan(0, 4, 0, 0) = 1; step(0) = 0; task(0, 8) = 1; about(4) = 9
        """);
    edge(40, "(An ACT, but for -3, -4.)", """
        pipe(1) = 0; write(1, 1) = 1; plan(0, 0, 1, 1) = 1; plan(0, 1, 0, 1) = 2; plan(0, 1, 0, 1) = 3; step(0) = 0
        about(4) = 6; set() = 2; undo() = 1; step(0) = 1; about(5) = 0; about(4) = 7; step(0) = 0; about(4) = 8
        """);
    edge(40, "what the call answers that it names (true is 1, false is 0)", """
        pipe(3) = 0; plan(0, 0, 1, 100) = 1; plan(0, 1, 0, 2) = 2; plan(0, 4, 0, 0) = 3; plan(0, 0, 1, 1) = 4; step(0) = 3
        step(0) = 2; step(0) = 1; step(0) = -2; plan(0, 4, 0, 0) = 1; plan(0, 0, 1, 101) = 2; plan(0, 1, 16, 1) = 3
        plan(0, 1, MIN, MAX) = 4; step(0) = 0; step(0) = -1; step(0) = -1; step(0) = -1
        """);
  }

  private static void operations() {
    edge(40, "0 write(a, b), 1 read(a, b)", """
        counter(5, false) = 0; plan(1, 0, 0, 7) = 1; plan(1, 1, 0, 100) = 2; step(1) = 7; handle(0, 1) = 12; step(1) = 12
        """);
    edge(40, "2 collect at a, up to b, 3 await at a, up to b, without an end", """
        set() = 0; counter(5, false) = 1; counter(5, false) = 2; add(0, 1, 1, 1) = 1; add(0, 2, 1, 1) = 2
        plan(4, 2, 0, 0) = 1; plan(4, 2, 0, 9) = 2; plan(4, 2, 0, 1) = 3; plan(4, 3, 0, 8) = 4; step(4) = -1; step(4) = -1
        step(4) = 1; got(4, 0, 0) = 1; step(4) = 1; got(4, 0, 0) = 2; plan(4, 3, 0, 0) = 1; plan(4, 3, 1, 1) = 2
        plan(4, 2, 0, 1) = 3; plan(4, 3, 0, 2) = 4; step(4) = -1; step(4) = -1; step(4) = 0; step(4) = -2; task(4, 7) = -1
        tick(100) = 100; task(4, 0) = 1; write(1, 1) = 1; task(4, 4) = 1; about(3) = 0
        """);
    edge(40, "4 close(a), 5 the INTEREST in HANDLE b of SET a is changed to be as it is (and armed)", """
        set() = 0; counter(5, false) = 1; add(0, 1, 2, 6) = 1; collect(0, 0, 1) = 1; plan(0, 5, 0, 1) = 1
        plan(0, 5, 0, 2) = 2; plan(0, 5, 1, 1) = 3; plan(0, 5, 0, 1) = 4; step(0) = 1; interest(0, 0, 1) = 2
        interest(0, 0, 2) = 6; interest(0, 0, 3) = 1; listed(0) = 1; interest(0, 0, 7) = 0; step(0) = 0; step(0) = 0
        collect(1, 0, 1) = 1; await(1, 0, 1, 0) = -2; step(0) = 1; task(1, 4) = 1; plan(0, 4, 1, 5) = 1
        plan(0, 5, 0, 1) = 2; plan(0, 4, 1, 0) = 3; step(0) = 1; about(1) = 0; step(0) = 0; step(0) = 0
        """);
    edge(40, "6 accept(a), 7 connect(a)", """
        listener(1, 4) = 0; plan(0, 6, 0, 9) = 1; plan(0, 7, 0, 9) = 2; plan(0, 7, 0, 0) = 3; plan(0, 6, 0, 0) = 4
        step(0) = -2; step(0) = 1; step(0) = -2; step(0) = 2; other(2) = 1; plan(0, 6, 1, 0) = 1; plan(0, 7, 3, 0) = 2
        step(0) = -1; step(0) = -1
        """);
  }

  private static void orders() {
    edge(41, "NONE if there are no such TASKS, they are the same, one GOES ROUND, or for another what.", """
        plan(0, 4, 9, 0) = 1; plan(1, 4, 9, 0) = 1; orders(0, 1, 0) = 2 !; orders(0, 1, 4) = 0 !; orders(0, 1, 5) = -1 !
        orders(0, 1, -1) = -1 !; orders(0, 1, MAX) = -1 !; orders(0, 1, MIN) = -1 !; orders(0, 0, 0) = -1 !
        orders(5, 5, 0) = -1 !; orders(0, 6, 0) = -1 !; orders(6, 0, 0) = -1 !; orders(-1, 0, 0) = -1 !
        orders(0, -1, 0) = -1 !; orders(MAX, 0, 0) = -1 !; orders(0, MIN, 0) = -1 !; round(1, true) = 1
        orders(0, 1, 0) = -1 !; orders(1, 0, 0) = -1 !; orders(0, 2, 0) = 1; orders(5, 0, 0) = 1
        round(1, false) = 1; orders(0, 1, 0) = 2
        """);
    edge(41, "what 0: how many orders .. orders are unlike if who goes when is", """
        orders(0, 1, 0) = 1; plan(0, 4, 9, 0) = 1; orders(0, 1, 0) = 1; plan(1, 4, 9, 0) = 1; orders(0, 1, 0) = 2
        plan(1, 4, 9, 0) = 2; orders(0, 1, 0) = 3; plan(0, 4, 9, 0) = 2; orders(0, 1, 0) = 6; plan(0, 4, 9, 0) = 3
        plan(0, 4, 9, 0) = 4; orders(0, 1, 0) = 15; plan(1, 4, 9, 0) = 3; plan(1, 4, 9, 0) = 4; orders(0, 1, 0) = 70
        orders(1, 0, 0) = 70 !; orders(0, 1, 1) = 0; orders(0, 1, 3) = 0; about(4) = 8; task(0, 8) = 4
        """);
    edge(41, "till none of both can (asleep, or no STEP left)", """
        set() = 0; plan(0, 3, 0, 1) = 1; plan(0, 4, 9, 0) = 2; plan(1, 4, 9, 0) = 1; orders(0, 1, 0) = 2
        orders(0, 1, 1) = 2; await(1, 0, 1, 0) = -2; orders(0, 1, 0) = 1; orders(0, 1, 1) = 1; await(0, 0, 1, 0) = -2
        orders(0, 1, 0) = 1; orders(0, 1, 1) = 1; plan(2, 4, 0, 0) = 1; orders(0, 2, 0) = 1; orders(0, 2, 1) = 0
        """);
  }

  private static void ordersTold() {
    edge(41, "1: in how many one of both is asleep at the end", """
        set() = 0; counter(0, false) = 1; add(0, 1, 1, 1) = 1; plan(0, 3, 0, 1) = 1; plan(0, 3, 0, 1) = 2
        plan(1, 0, 1, 1) = 1; plan(1, 0, 1, 1) = 2; orders(0, 1, 0) = 5; orders(0, 1, 1) = 1; orders(0, 1, 3) = 1
        orders(0, 1, 4) = 2; plan(1, 3, 0, 1) = 3; orders(0, 1, 1) = 9; orders(0, 1, 0) = 9   # both may sleep: counted once
        """);
    edge(41, "2: asleep while its SET SHOWS some", """
        counter(1, false) = 0; set() = 1; add(1, 0, 1, 0) = 1; plan(0, 1, 0, 1) = 1; plan(0, 3, 1, 1) = 2
        plan(1, 0, 0, 1) = 1; orders(0, 1, 0) = 3; orders(0, 1, 1) = 1; orders(0, 1, 2) = 0; await(5, 1, 1, 0) = 1
        read(0, 1) = 1; await(5, 1, 1, 0) = -2; forget(0) = 2; plan(0, 3, 1, 1) = 1; orders(0, 1, 0) = 2
        orders(0, 1, 1) = 1; orders(0, 1, 2) = 1; orders(0, 1, 3) = 0; orders(0, 1, 4) = 1
        """);
    edge(41, "3: the fewest that both got in all on the way, 4: the most", """
        set() = 0; counter(1, false) = 1; counter(1, false) = 2; add(0, 1, 1, 1) = 1; add(0, 2, 1, 1) = 2
        collect(0, 0, 1) = 1; collect(1, 0, 1) = 1; write(1, 1) = 1; write(2, 1) = 1; plan(0, 2, 0, 8) = 1
        plan(1, 1, 1, 1) = 1; plan(1, 2, 0, 8) = 2; orders(0, 1, 0) = 3; orders(0, 1, 3) = 1; orders(0, 1, 4) = 2
        orders(1, 0, 3) = 1; orders(1, 0, 4) = 2; task(0, 3) = 1
        """);
    edge(41, "3: the fewest that both got in all on the way", """
        set() = 0; counter(1, false) = 1; add(0, 1, 1, 0) = 1; collect(1, 0, 1) = 1; collect(1, 0, 1) = 1
        collect(2, 0, 1) = 1; collect(2, 0, 1) = 1; collect(2, 0, 1) = 1; plan(1, 2, 0, 1) = 1; plan(2, 2, 0, 1) = 1
        orders(1, 2, 3) = 2; orders(1, 2, 4) = 2; orders(2, 1, 3) = 2; orders(2, 3, 3) = 1; orders(3, 1, 4) = 1
        """);
    edge(41, "1: in how many one of both is asleep at the end, 2: asleep while its SET SHOWS some", """
        set() = 0; counter(0, false) = 1; add(0, 1, 1, 0) = 1; await(4, 0, 1, 0) = -2; await(5, 0, 1, 0) = -2
        write(1, 1) = 1; about(3) = 32; plan(3, 4, 9, 0) = 1; orders(3, 5, 1) = 1; orders(5, 3, 1) = 1; orders(3, 5, 2) = 1
        orders(5, 3, 2) = 1; orders(3, 4, 1) = 0; orders(4, 3, 2) = 0; read(1, 1) = 1; orders(5, 3, 1) = 1
        orders(3, 5, 2) = 0; orders(5, 3, 2) = 0
        """);
    edge(41, "(Nothing is done.)", """
        set() = 0; counter(0, false) = 1; add(0, 1, 1, 2) = 1; plan(0, 3, 0, 1) = 1; plan(0, 4, 0, 0) = 2
        plan(1, 0, 1, 1) = 1; plan(1, 5, 0, 1) = 2; image(0) = 2; tick(1) = 1; undo() = 1; orders(0, 1, 0) = 5 !
        orders(0, 1, 1) = 0 !; orders(0, 1, 2) = 0 !; orders(0, 1, 3) = 1 !; orders(0, 1, 4) = 1 !
        """);
    edge(41, "Of all orders in which two TASKS (unlike ones) can go on with their PROGRAMS from now", """
        set() = 0; counter(0, false) = 1; add(0, 1, 1, 1) = 1; plan(0, 0, 1, 1) = 1; plan(2, 0, 1, 1) = 1
        plan(5, 3, 0, 1) = 1; orders(0, 5, 0) = 2; orders(5, 2, 3) = 1; orders(0, 2, 4) = 0; step(5) = -2
        orders(0, 5, 0) = 1; orders(0, 5, 4) = 1; orders(0, 2, 0) = 2
        """);
  }

  private static void undoing() {
    edge(42, "UNDO: true; false if there is none.", """
        undo() = 0 !; set() = 0; undo() = 1; about(0) = 0; undo() = 0 !; about(5) = 1; redo() = 1; undo() = 1; undo() = 0 !
        """);
    edge(42, "12 at most are kept, the oldest go", "counter(0, false) = 0\n" + "write(0, 1) = 1\n".repeat(11)
        + "about(4) = 12\n" + "undo() = 1\n".repeat(12) + "undo() = 0 !; about(0) = 0; about(5) = 12\n");
    edge(42, "12 at most are kept, the oldest go", "counter(0, false) = 0\n" + "write(0, 1) = 1\n".repeat(12)
        + "about(4) = 12\n" + "undo() = 1\n".repeat(12) + "undo() = 0 !; handle(0, 1) = 0; about(5) = 12\n");
    edge(42, "12 at most are kept, the oldest go", "counter(0, false) = 0\n" + "write(0, 1) = 1\n".repeat(40)
        + "undo() = 1\n".repeat(5) + "about(4) = 7; handle(0, 1) = 35\n" + "write(0, 100) = 100\n".repeat(6)
        + "about(4) = 12\n" + "undo() = 1\n".repeat(12) + "undo() = 0; handle(0, 1) = 29\n" + "redo() = 1\n".repeat(12)
        + "redo() = 0; handle(0, 1) = 635\n");
    edge(42, "all is as it was then", """
        set() = 0; timer() = 1; counter(0, false) = 2; add(0, 1, 1, 1) = 1; add(0, 2, 1, 2) = 2; await(1, 0, 8, 9) = -2
        arm(1, 3, 2) = 1; plan(3, 0, 2, 1) = 1; plan(3, 1, 2, 1) = 2; tick(3) = 3; undo() = 1; about(2) = 0; about(3) = 2
        task(1, 3) = 0; task(1, 4) = 0; task(1, 7) = 9; handle(1, 5) = 3; interest(0, 0, 7) = 0; got(1, 0, 0) = -1
        rounds(1) = 1; task(1, 4) = 1; interest(0, 1, 3) = 0; undo() = 1; task(1, 4) = 0; interest(0, 1, 3) = 1
        task(3, 8) = 2; sleeper(0, 0) = 1; close(0) = 1; task(1, 6) = 1; undo() = 1; task(1, 6) = 0; listed(0) = 0
        handle(0, 1) = 2; interest(0, 1, 2) = 2
        """);
  }

  private static void acts() {
    edge(42, "ACTS are the calls that do something", """
        pipe(5) = 0; about(4) = 1; counter(1, true) = 2; about(4) = 2; timer() = 3; about(4) = 3; set() = 4; about(4) = 4
        listener(2, 2) = 5; about(4) = 5; connect(5) = 6; about(4) = 6; accept(5) = 7; about(4) = 7; twin(7) = 8
        about(4) = 8; close(8) = 1; about(4) = 9; write(1, 1) = 1; about(4) = 10; read(0, 1) = 1; about(4) = 11
        arm(3, 0, 0) = 1; about(4) = 12
        """);
    edge(42, "ACTS are the calls that do something", """
        set() = 0; counter(1, true) = 1; tick(1) = 1; about(4) = 3; add(0, 1, 1, 0) = 1; about(4) = 4
        change(0, 1, 1, 0) = 1; about(4) = 5; drop(0, 1) = 1; about(4) = 6; collect(0, 0, 1) = 0; about(4) = 7
        await(0, 0, 1, 0) = -2; about(4) = 8; plan(0, 0, 0, 0) = 1; about(4) = 9; round(0, true) = 1; about(4) = 10
        rounds(1) = 0; about(4) = 11; forget(0) = 1; about(4) = 12; undo() = 1; about(4) = 11; task(0, 8) = 1
        """);
    edge(42, "ACTS are the calls that do something", """
        counter(1, true) = 0; about(4) = 1; close(0) = 1; timer() = 0; about(4) = 3; close(0) = 1; set() = 0; about(4) = 5
        close(0) = 1; listener(2, 2) = 0; about(4) = 7; twin(0) = 1; close(0) = 1; twin(1) = 0; about(4) = 10
        """);
    edge(42, "ACTS are the calls that do something", """
        set() = 0; listener(2, 2) = 1; close(0) = 1; connect(1) = 0; about(4) = 4; undo() = 1; about(0) = 2; redo() = 1
        twin(0) = 2; close(0) = 1; accept(1) = 0; about(4) = 7; undo() = 1; handle(1, 1) = 1   # 0 is a HANDLE like others
        """);
    edge(42, "not those that answer NONE or false, nor those of which it is told that they do nothing, nor UNDO, REDO", """
        pipe(1) = 0; write(1, 1) = 1; set() = 2; add(2, 0, 1, 0) = 1; set() = 3; undo() = 1; write(1, 1) = 0 !
        read(1, 1) = -1 !; add(2, 0, 1, 0) = -2 !; close(9) = 0 !; twin(9) = -1 !; image(5) = -1 !; shows(2) = 1 !
        handle(0, 1) = 1 !; about(4) = 4 !; about(5) = 1; redo() = 1; about(4) = 5; undo() = 1; about(4) = 4
        """);
  }

  private static void redoing() {
    edge(43, "REDO: true; false if there is none.", """
        redo() = 0 !; set() = 0; redo() = 0 !; undo() = 1; redo() = 1; redo() = 0 !; about(0) = 1; about(4) = 1
        """);
    edge(43, "REDO does that again which was taken back last (till another ACT)", """
        counter(0, false) = 0; write(0, 1) = 1; write(0, 2) = 2; undo() = 1; undo() = 1; redo() = 1; handle(0, 1) = 1
        redo() = 1; handle(0, 1) = 3; redo() = 0 !; undo() = 1; write(0, 0) = -1 !; about(5) = 1; write(0, 5) = 5
        about(5) = 0; redo() = 0 !; handle(0, 1) = 6; undo() = 1; handle(0, 1) = 1
        """);
    edge(43, "(till another ACT)", """
        set() = 0; set() = 1; undo() = 1; about(5) = 1; collect(0, 0, 1) = 0; redo() = 0; set() = 1; undo() = 1
        rounds(1) = 0; redo() = 0; set() = 1; undo() = 1; await(0, 0, 1, 0) = -2; redo() = 0; set() = 1; undo() = 1
        tick(1) = 1; redo() = 0; plan(1, 4, 9, 0) = 1; set() = 1; undo() = 1; step(1) = 0; redo() = 0; set() = 1
        undo() = 1; stuck() = 1; orders(1, 2, 0) = 1; soon(0) = -1; redo() = 1
        """);
    edge(43, "12 at most are kept", "set() = 0; counter(0, false) = 1\n" + "write(1, 1) = 1\n".repeat(12)
        + "undo() = 1\n".repeat(12) + "about(5) = 12; about(4) = 0\n" + "redo() = 1\n".repeat(12)
        + "redo() = 0 !; about(4) = 12; about(5) = 0; handle(1, 1) = 12\n");
  }

  private static void about() {
    edge(44, "NONE for another what.", """
        set() = 0; about(7) = -1 !; about(-1) = -1 !; about(MAX) = -1 !; about(MIN) = -1 !; about(0) = 1 !; about(6) = 1 !
        """);
    edge(44, "What 0: HANDLES that are there, as bits", each(0, 15, "timer() = @") + """
        about(0) = 65535; close(0) = 1; about(0) = 65534; close(15) = 1; about(0) = 32766; twin(3) = 0; about(0) = 32767
        about(6) = 14
        """);
    edge(44, "1: INTERESTS in all, 2: the TIME, 3: TASKS that are asleep, as bits", """
        set() = 0; set() = 1; counter(0, true) = 2; add(0, 2, 1, 0) = 1; add(1, 2, 1, 0) = 1; add(1, 0, 1, 0) = 2
        about(1) = 3; tick(100) = 100; tick(1) = 101; about(2) = 101
        """ + each(0, 5, "await(@, 0, 1, 0) = -2") + "about(3) = 63; close(0) = 1; about(3) = 0; about(1) = 1");
    edge(44, "4: ACTS that can be taken back, 5: done again, 6: OBJECTS that are not GONE", """
        pipe(5) = 0; about(6) = 2; listener(2, 5) = 2; connect(2) = 3; about(6) = 5; close(0) = 1; about(6) = 4
        close(1) = 1; about(6) = 3; accept(2) = 0; about(6) = 3; about(4) = 6; about(5) = 0; undo() = 1; undo() = 1
        about(4) = 4; about(5) = 2; about(6) = 4; set() = 0; about(4) = 5; about(5) = 0
        """);
  }
}
