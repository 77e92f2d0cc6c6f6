import com.sun.management.ThreadMXBean;
import java.lang.management.ManagementFactory;

/**
 * The room of one run: all that an object and 512 calls make lives at once, in some 600,000 objects and arrays with 7.3
 * million fields and elements. An object takes 16 bytes or more, a field or element some four: a run that makes fewer
 * bytes than this bound stays within both.
 */
public final class RoomTest {
  private static final long MOST_BYTES = 8_000_000L;
  private static final int MOST_CALLS = 512;
  private static int wrong = 0;

  private interface Dear {
    void call(ReadyBell x, int k);
  }

  private static void stays(String name, Dear dear) {
    ThreadMXBean threads = (ThreadMXBean) ManagementFactory.getThreadMXBean();
    long self = Thread.currentThread().getId();
    long before = threads.getThreadAllocatedBytes(self);
    ReadyBell x = new ReadyBell();
    int used = fill(x);
    for (int k = 0; used + k < MOST_CALLS; k++) dear.call(x, k);
    long made = threads.getThreadAllocatedBytes(self) - before;
    if (made >= MOST_BYTES) {
      wrong++;
      System.out.println("512 calls of " + name + " make " + made + " bytes, " + MOST_BYTES + " are too many");
    }
  }

  /** As much as there can be: sets three deep, 24 interests, sleepers, programs of four steps. */
  private static int fill(ReadyBell x) {
    for (int h = 0; h < 3; h++) x.set();
    for (int h = 3; h < 12; h++) x.counter(1, true);
    x.timer();
    x.listener(12, 100);
    x.add(0, 1, 1, 0);
    x.add(1, 2, 1, 0);
    for (int h = 3; h < 12; h++) {
      x.add(0, h, 1, 0);
      x.add(2, h, 1, 0);
    }
    x.arm(12, 1, 1);
    x.add(2, 12, 1, 0);
    x.await(5, 1, 1, 1000);
    for (int t = 0; t < 2; t++) {
      x.plan(t, 0, 3, 1);
      x.plan(t, 2, 0, 8);
      x.plan(t, 5, 2, 4);
      x.plan(t, 3, 2, 8);
    }
    return 45;
  }

  public static void main(String[] args) {
    stays("nothing but questions", (x, k) -> x.interest(2, 9, k % 10));
    stays("orders", (x, k) -> x.orders(0, 1, k % 5));
    stays("stuck", (x, k) -> x.stuck());
    stays("soon", (x, k) -> x.soon(2));
    stays("calls", (x, k) -> x.calls(3, 1));
    stays("wakes", (x, k) -> x.wakes(3));
    stays("tick", (x, k) -> x.tick(100));
    stays("rounds", (x, k) -> x.rounds(50));
    stays("write and undo", (x, k) -> {
      if (k % 2 == 0) x.write(3, 1);
      else x.undo();
    });
    stays("image and back", (x, k) -> {
      if (k % 2 == 0) x.image(k / 2 % 2);
      else x.back(k / 2 % 2);
    });
    stays("collect", (x, k) -> x.collect(k % 5, 0, 8));
    stays("connect and accept", (x, k) -> {
      if (k % 3 == 0) x.connect(13);
      else if (k % 3 == 1) x.accept(13);
      else x.close(14 + k % 2);
    });
    System.out.println(wrong == 0 ? "the room is kept to" : wrong + " kinds of calls make too much");
    if (wrong != 0) System.exit(1);
  }
}
