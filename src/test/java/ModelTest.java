import java.io.ByteArrayInputStream;
import java.io.ByteArrayOutputStream;
import java.io.ObjectInputStream;
import java.io.ObjectOutputStream;
import java.io.Serializable;
import java.util.ArrayList;
import java.util.Arrays;
import java.util.List;
import java.util.Random;

/**
 * Random runs of up to 512 calls, each answered by ReadyBell and by a second, plain reading of the document
 * that is built of linked objects and copied whole; the first answer that differs ends the run.
 */
public final class ModelTest {
  static final int NONE = -1;

  static final class Pipe implements Serializable {
    int bytes, room;
    Thing reader, writer;
  }

  static final class Thing implements Serializable {
    int kind;
    Pipe pipe;
    int value;
    boolean byOnes;
    int next = NONE, every;
    int backlog, pipeRoom;
    List<Thing> waiting = new ArrayList<>();
    List<Want> list = new ArrayList<>();
    List<Integer> sleepers = new ArrayList<>();
  }

  static final class Want implements Serializable {
    Thing set, thing;
    int number, mask, how, noticed, got, left;
    boolean armed = true;
  }

  static final class Worker implements Serializable {
    Thing bed;
    int up, until = NONE;
    List<int[]> got = new ArrayList<>();
    int ever, some, none, lost;
    List<int[]> program = new ArrayList<>();
    boolean round;
  }

  static final class World implements Serializable {
    int time;
    Thing[] names = new Thing[16];
    List<Want> wants = new ArrayList<>();
    Worker[] workers = new Worker[6];
    List<Thing> called = new ArrayList<>();
    List<Thing> wokenAt = new ArrayList<>();
    int fed;

    World() {
      for (int t = 0; t < 6; t++) workers[t] = new Worker();
    }

    World copy() {
      try {
        ByteArrayOutputStream bytes = new ByteArrayOutputStream();
        try (ObjectOutputStream out = new ObjectOutputStream(bytes)) {
          out.writeObject(this);
        }
        return (World) new ObjectInputStream(new ByteArrayInputStream(bytes.toByteArray())).readObject();
      } catch (Exception e) {
        throw new IllegalStateException(e);
      }
    }

    Thing at(int h) {
      return h < 0 || h > 15 ? null : names[h];
    }

    Thing setAt(int h) {
      Thing t = at(h);
      return t == null || t.kind != 4 ? null : t;
    }

    int lowest(Thing t) {
      for (int h = 0; h < 16 && t != null; h++) if (names[h] == t) return h;
      return NONE;
    }

    int free() {
      for (int h = 0; h < 16; h++) if (names[h] == null) return h;
      return NONE;
    }

    int frees() {
      int n = 0;
      for (Thing t : names) if (t == null) n++;
      return n;
    }

    List<Thing> living() {
      List<Thing> all = new ArrayList<>();
      for (Thing t : names) if (t != null && !all.contains(t)) all.add(t);
      List<Thing> unnamed = new ArrayList<>();
      for (Thing t : all) unnamed.addAll(t.waiting);
      all.addAll(unnamed);
      return all;
    }

    int waitingInAll() {
      int n = 0;
      for (Thing t : living()) n += t.waiting.size();
      return n;
    }

    int named(Thing t) {
      int h = free();
      names[h] = t;
      return h;
    }

    int make(int kind) {
      if (free() < 0) return NONE;
      Thing t = new Thing();
      t.kind = kind;
      return named(t);
    }

    Pipe newPipe(int room) {
      Pipe p = new Pipe();
      p.room = room;
      p.reader = new Thing();
      p.reader.kind = 0;
      p.reader.pipe = p;
      p.writer = new Thing();
      p.writer.kind = 1;
      p.writer.pipe = p;
      return p;
    }

    int ready(Thing t) {
      int bits = 0;
      switch (t.kind) {
        case 0:
          if (t.pipe.bytes > 0) bits |= 1;
          if (t.pipe.writer == null) bits |= 4;
          break;
        case 1:
          if (t.pipe.reader == null) bits |= 8;
          else if (t.pipe.bytes < t.pipe.room) bits |= 2;
          break;
        case 2:
          if (t.value > 0) bits |= 1;
          if (t.value < 1000) bits |= 2;
          break;
        case 3:
          if (t.value > 0) bits |= 1;
          break;
        case 4:
          if (!shown(t).isEmpty()) bits |= 1;
          break;
        default:
          if (!t.waiting.isEmpty()) bits |= 1;
      }
      return bits;
    }

    int tells(Want w) {
      return w.armed ? (w.mask | 12) & ready(w.thing) : 0;
    }

    List<Want> shown(Thing set) {
      List<Want> all = new ArrayList<>();
      for (Want w : set.list) if (tells(w) != 0) all.add(w);
      return all;
    }

    List<Want> held(Thing set) {
      List<Want> all = new ArrayList<>();
      for (Want w : wants) if (w.set == set) all.add(w);
      return all;
    }

    void notice(Thing t, int bit) {
      boolean aloneGot = false;
      for (Want w : wants) {
        if (w.thing != t || !w.armed || ((w.mask | 12) & bit) == 0) continue;
        boolean alone = (w.how & 4) != 0;
        if (alone && aloneGot) continue;
        w.noticed++;
        enlist(w);
        if (callSet(w.set) && alone) aloneGot = true;
      }
    }

    void enlist(Want w) {
      if (!w.set.list.contains(w)) {
        w.set.list.add(w);
        w.left = 0;
      }
    }

    boolean callSet(Thing set) {
      called.add(set);
      boolean got = !set.sleepers.isEmpty() && wake(set);
      notice(set, 1);
      return got;
    }

    boolean wake(Thing set) {
      wokenAt.add(set);
      int t = set.sleepers.get(0);
      Worker w = workers[t];
      List<Want> again = new ArrayList<>();
      int n = collectInto(w, set, w.up, again);
      if (n == 0) {
        w.none++;
        return false;
      }
      w.some++;
      fed |= 1 << t;
      set.sleepers.remove(0);
      w.bed = null;
      w.until = NONE;
      boolean more = false;
      for (Want x : set.list) more |= tells(x) != 0 && !again.contains(x);
      if (more && !set.sleepers.isEmpty()) wake(set);
      return true;
    }

    int collectInto(Worker w, Thing set, int up, List<Want> again) {
      w.got = new ArrayList<>();
      List<Want> before = new ArrayList<>(set.list);
      while (w.got.size() < up && !set.list.isEmpty()) {
        Want x = set.list.remove(0);
        before.remove(x);
        x.left = 0;
        int bits = tells(x);
        if (bits == 0) continue;
        w.got.add(new int[] {x.number, bits});
        x.got++;
        if ((x.how & 2) != 0) x.armed = false;
        else if ((x.how & 1) == 0) again.add(x);
      }
      for (Want x : before) x.left++;
      set.list.addAll(again);
      w.ever += w.got.size();
      return w.got.size();
    }

    int depth(Thing set) {
      int d = 0;
      for (Want w : held(set)) if (w.thing.kind == 4) d = Math.max(d, depth(w.thing));
      return d + 1;
    }

    boolean inside(Thing outer, Thing inner) {
      if (outer == inner) return true;
      for (Want w : held(outer)) if (w.thing.kind == 4 && inside(w.thing, inner)) return true;
      return false;
    }

    int add(int set, int handle, int mask, int how) {
      Thing s = setAt(set), t = at(handle);
      if (s == null || t == null || s == t || mask < 0 || mask > 3 || how < 0 || how > 7) return NONE;
      if (find(set, handle) != null) return -2;
      Want w = new Want();
      w.set = s;
      w.thing = t;
      w.number = handle;
      w.mask = mask;
      w.how = how;
      if (t.kind == 4) {
        if (inside(t, s)) return -3;
        wants.add(w);
        boolean deep = false;
        for (Thing x : living()) deep |= x.kind == 4 && depth(x) > 3;
        wants.remove(w);
        if (deep) return -3;
      }
      if (wants.size() == 24) return -4;
      wants.add(w);
      tell(w);
      return held(s).size();
    }

    void tell(Want w) {
      w.armed = true;
      if (tells(w) != 0) {
        enlist(w);
        callSet(w.set);
      }
    }

    Want find(int set, int handle) {
      Thing s = setAt(set), t = at(handle);
      if (s == null || t == null) return null;
      for (Want w : wants) if (w.set == s && w.thing == t && w.number == handle) return w;
      return null;
    }

    boolean change(int set, int handle, int mask, int how) {
      Want w = find(set, handle);
      if (w == null || mask < 0 || mask > 3 || how < 0 || how > 7) return false;
      w.mask = mask;
      w.how = how;
      tell(w);
      return true;
    }

    void discard(Want w) {
      wants.remove(w);
      w.set.list.remove(w);
    }

    boolean drop(int set, int handle) {
      Want w = find(set, handle);
      if (w == null) return false;
      discard(w);
      return true;
    }

    void leave(Worker w) {
      w.bed = null;
      w.until = NONE;
      w.got = new ArrayList<>();
      w.lost++;
    }

    boolean close(int handle) {
      Thing t = at(handle);
      if (t == null) return false;
      names[handle] = null;
      if (lowest(t) >= 0) return true;
      for (Want w : new ArrayList<>(wants)) if (w.thing == t) discard(w);
      for (Want w : new ArrayList<>(wants)) if (w.set == t) discard(w);
      for (int s : t.sleepers) leave(workers[s]);
      while (!t.waiting.isEmpty()) {
        Thing r = t.waiting.remove(0);
        r.pipe.reader = null;
        if (r.pipe.writer != null) notice(r.pipe.writer, 8);
      }
      if (t.kind == 0) {
        t.pipe.reader = null;
        if (t.pipe.writer != null) notice(t.pipe.writer, 8);
      }
      if (t.kind == 1) {
        t.pipe.writer = null;
        if (t.pipe.reader != null) notice(t.pipe.reader, 4);
      }
      return true;
    }

    int connect(int handle) {
      Thing l = at(handle);
      if (l == null || l.kind != 5 || free() < 0) return NONE;
      if (l.waiting.size() == l.backlog || waitingInAll() == 12) return -2;
      Pipe p = newPipe(l.pipeRoom);
      l.waiting.add(p.reader);
      int h = named(p.writer);
      notice(l, 1);
      return h;
    }

    int accept(int handle) {
      Thing l = at(handle);
      if (l == null || l.kind != 5 || free() < 0) return NONE;
      if (l.waiting.isEmpty()) return -2;
      return named(l.waiting.remove(0));
    }

    int write(int handle, int n) {
      Thing t = at(handle);
      if (t == null || n < 1 || n > 100) return NONE;
      if (t.kind == 1) {
        if (t.pipe.reader == null) return -2;
        int k = Math.min(n, t.pipe.room - t.pipe.bytes);
        if (k == 0) return 0;
        t.pipe.bytes += k;
        notice(t.pipe.reader, 1);
        return k;
      }
      if (t.kind == 2) {
        if (t.value + n > 1000) return 0;
        t.value += n;
        notice(t, 1);
        return n;
      }
      return NONE;
    }

    int read(int handle, int n) {
      Thing t = at(handle);
      if (t == null || n < 1 || n > 100) return NONE;
      if (t.kind == 0) {
        int k = Math.min(n, t.pipe.bytes);
        if (k == 0) return t.pipe.writer == null ? -2 : 0;
        t.pipe.bytes -= k;
        if (t.pipe.writer != null) notice(t.pipe.writer, 2);
        return k;
      }
      if (t.kind == 2) {
        if (t.value == 0) return 0;
        int k = t.byOnes ? 1 : t.value;
        t.value -= k;
        notice(t, 2);
        return k;
      }
      if (t.kind == 3) {
        int k = t.value;
        t.value = 0;
        return k;
      }
      return NONE;
    }

    void pass() {
      time++;
      List<Thing> due = new ArrayList<>();
      for (int h = 0; h < 16; h++) {
        Thing t = names[h];
        if (t != null && t.kind == 3 && t.next == time && lowest(t) == h) due.add(t);
      }
      for (Thing t : due) {
        if (t.value < 1000) t.value++;
        t.next = t.every > 0 ? time + t.every : NONE;
        notice(t, 1);
      }
      for (int t = 0; t < 6; t++) {
        if (workers[t].bed != null && workers[t].until == time) {
          workers[t].bed.sleepers.remove(Integer.valueOf(t));
          leave(workers[t]);
        }
      }
    }

    int collect(int task, int set, int up) {
      Thing s = setAt(set);
      if (task < 0 || task > 5 || s == null || up < 1 || up > 8 || workers[task].bed != null) return NONE;
      return collectInto(workers[task], s, up, new ArrayList<>());
    }

    int await(int task, int set, int up, int within) {
      if (within < 0 || within > 1000) return NONE;
      int n = collect(task, set, up);
      if (n != 0) return n;
      Worker w = workers[task];
      w.bed = setAt(set);
      w.bed.sleepers.add(task);
      w.up = up;
      w.until = within == 0 ? NONE : time + within;
      return -2;
    }

    boolean canGo(int task) {
      return workers[task].bed == null && !workers[task].program.isEmpty();
    }

    int step(int task) {
      Worker w = workers[task];
      int[] s = w.program.remove(0);
      if (w.round) w.program.add(s);
      switch (s[0]) {
        case 0: return write(s[1], s[2]);
        case 1: return read(s[1], s[2]);
        case 2: return collect(task, s[1], s[2]);
        case 3: return await(task, s[1], s[2], 0);
        case 4: return close(s[1]) ? 1 : 0;
        case 5:
          Want x = find(s[1], s[2]);
          return x != null && change(s[1], s[2], x.mask, x.how) ? 1 : 0;
        case 6: return accept(s[1]);
        default: return connect(s[1]);
      }
    }

    int oneRound() {
      int n = 0;
      for (int t = 0; t < 6; t++) {
        if (canGo(t)) {
          step(t);
          n++;
        }
      }
      return n;
    }

    int asleep() {
      int bits = 0;
      for (int t = 0; t < 6; t++) if (workers[t].bed != null) bits |= 1 << t;
      return bits;
    }
  }

  /** The whole face, over worlds that are copied for each act. */
  static final class Model {
    World now = new World();
    List<World> undos = new ArrayList<>();
    List<World> redos = new ArrayList<>();
    World[] boxes = new World[2];

    private void act(World before) {
      undos.add(before);
      if (undos.size() > 12) undos.remove(0);
      redos.clear();
    }

    int call(String name, int[] a) {
      switch (name) {
        case "write": case "read": case "connect": case "accept": case "pipe": case "counter": case "timer":
        case "set": case "listener": case "twin": case "close": case "arm": case "tick": case "add": case "change":
        case "drop": case "collect": case "await": case "plan": case "round": case "rounds": case "forget":
        case "step": {
          World before = now.copy();
          boolean[] did = new boolean[1];
          int answer = doAct(name, a, did);
          if (did[0]) act(before);
          return answer;
        }
        default:
          return ask(name, a);
      }
    }

    private static int from(int least, int answer, boolean[] did) {
      did[0] = answer >= least;
      return answer;
    }

    private static int bool(boolean answer, boolean[] did) {
      did[0] = answer;
      return answer ? 1 : 0;
    }

    private int doAct(String name, int[] a, boolean[] did) {
      switch (name) {
        case "pipe": {
          if (a[0] < 1 || a[0] > 100 || now.frees() < 2) return NONE;
          Pipe p = now.newPipe(a[0]);
          int h = now.named(p.reader);
          now.named(p.writer);
          return from(0, h, did);
        }
        case "counter": {
          if (a[0] < 0 || a[0] > 1000) return NONE;
          int h = now.make(2);
          if (h < 0) return NONE;
          now.at(h).value = a[0];
          now.at(h).byOnes = a[1] == 1;
          return from(0, h, did);
        }
        case "timer": return from(0, now.make(3), did);
        case "set": return from(0, now.make(4), did);
        case "listener": {
          if (a[0] < 1 || a[0] > 12 || a[1] < 1 || a[1] > 100) return NONE;
          int h = now.make(5);
          if (h < 0) return NONE;
          now.at(h).backlog = a[0];
          now.at(h).pipeRoom = a[1];
          return from(0, h, did);
        }
        case "connect": return from(0, now.connect(a[0]), did);
        case "accept": return from(0, now.accept(a[0]), did);
        case "twin": {
          if (now.at(a[0]) == null || now.free() < 0) return NONE;
          return from(0, now.named(now.at(a[0])), did);
        }
        case "close": return bool(now.close(a[0]), did);
        case "write": return from(1, now.write(a[0], a[1]), did);
        case "read": return from(1, now.read(a[0], a[1]), did);
        case "arm": {
          Thing t = now.at(a[0]);
          if (t == null || t.kind != 3 || a[1] < 0 || a[1] > 1000 || a[2] < 0 || a[2] > 1000) return 0;
          t.value = 0;
          t.next = a[1] == 0 ? NONE : now.time + a[1];
          t.every = a[2];
          return bool(true, did);
        }
        case "tick": {
          if (a[0] < 1 || a[0] > 100 || now.time + a[0] > 100000) return NONE;
          for (int k = 0; k < a[0]; k++) now.pass();
          return from(0, now.time, did);
        }
        case "add": return from(1, now.add(a[0], a[1], a[2], a[3]), did);
        case "change": return bool(now.change(a[0], a[1], a[2], a[3]), did);
        case "drop": return bool(now.drop(a[0], a[1]), did);
        case "collect": return from(0, now.collect(a[0], a[1], a[2]), did);
        case "await": {
          int answer = now.await(a[0], a[1], a[2], a[3]);
          did[0] = answer != NONE;
          return answer;
        }
        case "plan": {
          if (a[0] < 0 || a[0] > 5 || a[1] < 0 || a[1] > 7 || now.workers[a[0]].program.size() == 4) return NONE;
          now.workers[a[0]].program.add(new int[] {a[1], a[2], a[3]});
          return from(0, now.workers[a[0]].program.size(), did);
        }
        case "round": {
          if (a[0] < 0 || a[0] > 5 || now.workers[a[0]].round == (a[1] == 1)) return 0;
          now.workers[a[0]].round = a[1] == 1;
          return bool(true, did);
        }
        case "rounds": {
          if (a[0] < 1 || a[0] > 50) return NONE;
          int n = 0;
          for (int k = 0; k < a[0]; k++) n += now.oneRound();
          return from(0, n, did);
        }
        case "forget": {
          if (a[0] < 0 || a[0] > 5 || now.workers[a[0]].program.isEmpty()) return NONE;
          int n = now.workers[a[0]].program.size();
          now.workers[a[0]].program.clear();
          return from(1, n, did);
        }
        default: {
          if (a[0] < 0 || a[0] > 5) return -4;
          if (now.workers[a[0]].bed != null) return -3;
          if (now.workers[a[0]].program.isEmpty()) return -4;
          did[0] = true;
          return now.step(a[0]);
        }
      }
    }

    private int ask(String name, int[] a) {
      switch (name) {
        case "handle": return askHandle(now.at(a[0]), a[1]);
        case "other": {
          Thing t = now.at(a[0]);
          return t == null || t.pipe == null ? NONE : now.lowest(t.kind == 0 ? t.pipe.writer : t.pipe.reader);
        }
        case "interest": return askInterest(now.setAt(a[0]), a[1], a[2]);
        case "listed": return now.setAt(a[0]) == null ? NONE : now.setAt(a[0]).list.size();
        case "shows": return now.setAt(a[0]) == null ? NONE : now.shown(now.setAt(a[0])).size();
        case "shown": {
          if (now.setAt(a[0]) == null) return NONE;
          List<Want> all = now.shown(now.setAt(a[0]));
          return a[1] < 0 || a[1] >= all.size() ? NONE : all.get(a[1]).number;
        }
        case "depth": return now.setAt(a[0]) == null ? NONE : now.depth(now.setAt(a[0]));
        case "sleeper": {
          Thing s = now.setAt(a[0]);
          return s == null || a[1] < 0 || a[1] >= s.sleepers.size() ? NONE : s.sleepers.get(a[1]);
        }
        case "task": return a[0] < 0 || a[0] > 5 ? NONE : askTask(now.workers[a[0]], a[1]);
        case "got": {
          if (a[0] < 0 || a[0] > 5 || a[1] < 0 || a[1] >= now.workers[a[0]].got.size()) return NONE;
          return a[2] == 0 || a[2] == 1 ? now.workers[a[0]].got.get(a[1])[a[2]] : NONE;
        }
        case "wakes": {
          if (now.at(a[0]) == null) return NONE;
          World w = now.copy();
          w.fed = 0;
          w.write(a[0], 1);
          return w.fed;
        }
        case "stuck": {
          World w = now.copy();
          for (int k = 0; k < 60; k++) {
            w.oneRound();
            if (w.time < 100000) w.pass();
          }
          return w.asleep();
        }
        case "soon": return askSoon(a[0]);
        case "calls": {
          if (now.at(a[0]) == null || (a[1] != 1 && a[1] != 2 && a[1] != 4 && a[1] != 8)) return NONE;
          World w = now.copy();
          w.called.clear();
          w.notice(w.at(a[0]), a[1]);
          int bits = 0;
          for (Thing s : w.called) bits |= 1 << w.lowest(s);
          return bits;
        }
        case "image": {
          if (a[0] < 0 || a[0] > 1) return NONE;
          boxes[a[0]] = now.copy();
          return now.living().size();
        }
        case "back": {
          if (a[0] < 0 || a[0] > 1 || boxes[a[0]] == null) return NONE;
          now = boxes[a[0]].copy();
          undos.clear();
          redos.clear();
          return now.living().size();
        }
        case "orders": return askOrders(a[0], a[1], a[2]);
        case "undo": {
          if (undos.isEmpty()) return 0;
          redos.add(now);
          now = undos.remove(undos.size() - 1);
          return 1;
        }
        case "redo": {
          if (redos.isEmpty()) return 0;
          undos.add(now);
          now = redos.remove(redos.size() - 1);
          return 1;
        }
        default: return askAbout(a[0]);
      }
    }

    private int askAbout(int what) {
      switch (what) {
        case 0: {
          int bits = 0;
          for (int h = 0; h < 16; h++) if (now.names[h] != null) bits |= 1 << h;
          return bits;
        }
        case 1: return now.wants.size();
        case 2: return now.time;
        case 3: return now.asleep();
        case 4: return undos.size();
        case 5: return redos.size();
        case 6: return now.living().size();
        default: return NONE;
      }
    }

    private int askHandle(Thing t, int what) {
      if (t == null) return NONE;
      switch (what) {
        case 0: return t.kind;
        case 1: return t.kind < 2 ? t.pipe.bytes : t.kind < 4 ? t.value
            : t.kind == 4 ? now.held(t).size() : t.waiting.size();
        case 2: return now.ready(t);
        case 3: {
          int n = 0;
          for (Thing x : now.names) if (x == t) n++;
          return n;
        }
        case 4: {
          int n = 0;
          for (Want w : now.wants) if (w.thing == t) n++;
          return n;
        }
        case 5: return t.kind < 2 ? t.pipe.room : t.kind == 2 ? (t.byOnes ? 1 : 0) : t.kind == 3 ? t.next
            : t.kind == 4 ? t.sleepers.size() : t.backlog;
        default: return NONE;
      }
    }

    private int askInterest(Thing set, int k, int what) {
      if (set == null || k < 0 || k >= now.held(set).size()) return NONE;
      Want w = now.held(set).get(k);
      switch (what) {
        case 0: return w.number;
        case 1: return w.mask;
        case 2: return w.how;
        case 3: return w.armed ? 1 : 0;
        case 4: return set.list.indexOf(w);
        case 5: return now.tells(w) != 0 ? 1 : 0;
        case 6: return now.at(w.number) == w.thing ? 1 : 0;
        case 7: return w.noticed;
        case 8: return w.got;
        case 9: return set.list.contains(w) ? w.left : 0;
        default: return NONE;
      }
    }

    private int askTask(Worker w, int what) {
      switch (what) {
        case 0: return w.bed != null ? 1 : 0;
        case 1: return now.lowest(w.bed);
        case 2: return w.got.size();
        case 3: return w.ever;
        case 4: return w.some;
        case 5: return w.none;
        case 6: return w.lost;
        case 7: return w.until;
        case 8: return w.program.size();
        case 9: return w.round ? 1 : 0;
        default: return NONE;
      }
    }

    private int askSoon(int set) {
      if (now.setAt(set) == null) return NONE;
      World w = now.copy();
      w.wokenAt.clear();
      for (int k = 0; k <= 100 && w.time <= 100000; k++) {
        Thing s = w.setAt(set);
        if (!w.shown(s).isEmpty() || w.wokenAt.contains(s)) return w.time;
        w.pass();
      }
      return NONE;
    }

    private int askOrders(int one, int two, int what) {
      if (one < 0 || one > 5 || two < 0 || two > 5 || one == two || what < 0 || what > 4) return NONE;
      if (now.workers[one].round || now.workers[two].round) return NONE;
      int[] sums = {0, 0, 0, Integer.MAX_VALUE, 0};
      walk(now, one, two, now.workers[one].ever + now.workers[two].ever, sums);
      return sums[what];
    }

    private void walk(World w, int one, int two, int before, int[] sums) {
      boolean end = true;
      for (int t : new int[] {one, two}) {
        if (w.canGo(t)) {
          end = false;
          World next = w.copy();
          next.step(t);
          walk(next, one, two, before, sums);
        }
      }
      if (!end) return;
      boolean asleep = false, missing = false;
      for (int t : new int[] {one, two}) {
        Thing bed = w.workers[t].bed;
        asleep |= bed != null;
        missing |= bed != null && !w.shown(bed).isEmpty();
      }
      int got = w.workers[one].ever + w.workers[two].ever - before;
      sums[0]++;
      if (asleep) sums[1]++;
      if (missing) sums[2]++;
      sums[3] = Math.min(sums[3], got);
      sums[4] = Math.max(sums[4], got);
    }
  }

  static int real(ReadyBell x, String name, int[] a) {
    switch (name) {
      case "pipe": return x.pipe(a[0]);
      case "counter": return x.counter(a[0], a[1] == 1);
      case "timer": return x.timer();
      case "set": return x.set();
      case "listener": return x.listener(a[0], a[1]);
      case "connect": return x.connect(a[0]);
      case "accept": return x.accept(a[0]);
      case "twin": return x.twin(a[0]);
      case "close": return x.close(a[0]) ? 1 : 0;
      case "write": return x.write(a[0], a[1]);
      case "read": return x.read(a[0], a[1]);
      case "arm": return x.arm(a[0], a[1], a[2]) ? 1 : 0;
      case "tick": return x.tick(a[0]);
      case "add": return x.add(a[0], a[1], a[2], a[3]);
      case "change": return x.change(a[0], a[1], a[2], a[3]) ? 1 : 0;
      case "drop": return x.drop(a[0], a[1]) ? 1 : 0;
      case "collect": return x.collect(a[0], a[1], a[2]);
      case "await": return x.await(a[0], a[1], a[2], a[3]);
      case "handle": return x.handle(a[0], a[1]);
      case "other": return x.other(a[0]);
      case "interest": return x.interest(a[0], a[1], a[2]);
      case "listed": return x.listed(a[0]);
      case "shows": return x.shows(a[0]);
      case "shown": return x.shown(a[0], a[1]);
      case "depth": return x.depth(a[0]);
      case "sleeper": return x.sleeper(a[0], a[1]);
      case "task": return x.task(a[0], a[1]);
      case "got": return x.got(a[0], a[1], a[2]);
      case "wakes": return x.wakes(a[0]);
      case "plan": return x.plan(a[0], a[1], a[2], a[3]);
      case "round": return x.round(a[0], a[1] == 1) ? 1 : 0;
      case "rounds": return x.rounds(a[0]);
      case "stuck": return x.stuck();
      case "soon": return x.soon(a[0]);
      case "calls": return x.calls(a[0], a[1]);
      case "image": return x.image(a[0]);
      case "back": return x.back(a[0]);
      case "forget": return x.forget(a[0]);
      case "step": return x.step(a[0]);
      case "orders": return x.orders(a[0], a[1], a[2]);
      case "undo": return x.undo() ? 1 : 0;
      case "redo": return x.redo() ? 1 : 0;
      default: return x.about(a[0]);
    }
  }

  /** Each call's name, how often it comes, and a letter for each argument: see argument(). */
  static final String[] CALLS = {
    "pipe 1 r", "counter 2 vb", "timer 1", "set 2", "listener 1 lr", "connect 5 L", "accept 4 L", "twin 2 h",
    "close 3 h", "write 22 Wn", "read 14 Rn", "arm 6 Tff", "tick 8 k", "add 20 shmw", "change 8 shmw", "drop 2 sh",
    "collect 10 tsu", "await 20 tsuf", "handle 1 hq", "other 1 h", "interest 1 siq", "listed 1 s", "shows 1 s",
    "shown 1 si", "depth 1 s", "sleeper 1 si", "task 1 tq", "got 1 tie", "wakes 6 W", "plan 16 toss",
    "round 1 tb", "rounds 2 k", "stuck 1", "soon 4 s", "calls 5 hc", "image 1 e", "back 1 e", "forget 1 t",
    "step 14 t", "orders 5 ttx", "undo 5", "redo 4", "about 1 q"};

  static int argument(char kind, Random random, Model model) {
    int wild = random.nextInt(200);
    if (wild == 0) return random.nextBoolean() ? Integer.MAX_VALUE : Integer.MIN_VALUE;
    if (wild == 1) return random.nextInt();
    if (wild == 2) return -1 - random.nextInt(3);
    boolean edge = random.nextInt(20) == 0;
    switch (kind) {
      case 'r': return edge ? random.nextInt(103) : 1 + random.nextInt(5);
      case 'v': return edge ? random.nextInt(1003) : random.nextInt(5) * 250;
      case 'b': return random.nextInt(2);
      case 'l': return edge ? random.nextInt(14) : 1 + random.nextInt(6);
      case 'h': return edge ? random.nextInt(17) : someHandle(random, model, "012345");
      case 's': return edge ? random.nextInt(17) : someHandle(random, model, "4");
      case 'W': return edge ? random.nextInt(17) : someHandle(random, model, "12");
      case 'R': return edge ? random.nextInt(17) : someHandle(random, model, "023");
      case 'T': return edge ? random.nextInt(17) : someHandle(random, model, "3");
      case 'L': return edge ? random.nextInt(17) : someHandle(random, model, "5");
      case 'n': return random.nextInt(6) == 0 ? random.nextInt(102) : 1 + random.nextInt(3);
      case 'f': return edge ? random.nextInt(1002) : random.nextInt(7);
      case 'k': return edge ? random.nextInt(102) : 1 + random.nextInt(4);
      case 'm': return random.nextInt(10) == 0 ? random.nextInt(5) : 1 + random.nextInt(3);
      case 'w': return edge ? random.nextInt(10) : random.nextBoolean() ? random.nextInt(8) : 4 * random.nextInt(2);
      case 't': return edge ? random.nextInt(7) : random.nextInt(random.nextBoolean() ? 3 : 6);
      case 'u': return edge ? random.nextInt(10) : 1 + random.nextInt(3);
      case 'q': return random.nextInt(11);
      case 'i': return random.nextInt(4);
      case 'e': return random.nextInt(edge ? 3 : 2);
      case 'o': return random.nextInt(8);
      case 'c': return edge ? random.nextInt(17) : 1 << random.nextInt(random.nextBoolean() ? 1 : 4);
      default: return random.nextInt(6);
    }
  }

  static int someHandle(Random random, Model model, String kinds) {
    int from = random.nextInt(16);
    for (int k = 0; k < 16; k++) {
      Thing t = model.now.names[(from + k) % 16];
      if (t != null && kinds.indexOf('0' + t.kind) >= 0) return (from + k) % 16;
    }
    return from;
  }

  static int[] arguments(String name, String kinds, Random random, Model model) {
    int[] a = new int[kinds.length()];
    for (int k = 0; k < a.length; k++) a[k] = argument(kinds.charAt(k), random, model);
    boolean known = random.nextInt(8) != 0;
    if (name.equals("plan")) {
      if (random.nextInt(3) == 0) a[1] = random.nextInt(4);
      char[] at = {'W', 'R', 's', 's', 'h', 's', 'L', 'L'};
      if (a[1] >= 0 && a[1] < 8) a[2] = argument(at[a[1]], random, model);
      a[3] = argument(a[1] == 5 ? 'h' : 'u', random, model);
      if (a[1] == 5 && known) pickInterest(random, model, a, 2);
    }
    if ((name.equals("change") || name.equals("drop")) && known) pickInterest(random, model, a, 0);
    if ((name.equals("await") || name.equals("collect") || name.equals("step")) && known) {
      for (int k = 0; k < 6 && a[0] >= 0 && a[0] < 6 && model.now.workers[a[0]].bed != null; k++) a[0] = (a[0] + 1) % 6;
    }
    return a;
  }

  static void pickInterest(Random random, Model model, int[] a, int at) {
    if (model.now.wants.isEmpty()) return;
    Want w = model.now.wants.get(random.nextInt(model.now.wants.size()));
    a[at] = model.now.lowest(w.set);
    a[at + 1] = w.number;
  }

  static int weigh(String[] calls) {
    int sum = 0;
    for (String c : calls) sum += Integer.parseInt(c.split(" ")[1]);
    return sum;
  }

  /** The house is filled first, so that there is something to go wrong. */
  static final String[][] BEGINNINGS = {
    {"set", "set", "set", "counter", "counter", "pipe", "timer", "listener", "add", "add", "add", "add"},
    {"set", "set", "counter", "counter", "add", "add", "add", "add", "await", "await", "await", "await"},
    {"set", "set", "set", "set", "counter", "pipe", "add", "add", "add", "add", "add", "add", "add", "add"},
    {"set", "set", "timer", "timer", "add", "add", "add", "arm", "arm", "await", "soon", "tick"},
    {"set", "listener", "listener", "connect", "connect", "add", "add", "add", "add", "connect", "close", "close"},
    {"set", "pipe", "counter", "add", "add", "plan", "plan", "plan", "plan", "plan", "plan", "plan", "plan"},
    crowded()};

  /** So many that 24 interests are reached. */
  private static String[] crowded() {
    String[] all = new String[70];
    for (int k = 0; k < all.length; k++) all[k] = k < 3 ? "set" : k < 14 ? "counter" : k == 14 ? "timer" : "add";
    return all;
  }

  /** Some calls tell more where several stand together. */
  static String[] again(Random random, String[] call, String one, String two) {
    int pick = random.nextInt(4);
    return pick == 0 ? callNamed(one) : pick == 1 ? callNamed(two) : call;
  }

  static String[] callNamed(String name) {
    for (String c : CALLS) if (c.startsWith(name + " ")) return c.split(" ");
    throw new IllegalArgumentException(name);
  }

  /** A question about what is there, so that a wrong state is seen near where it comes up. */
  static String askSome(ReadyBell x, Model m, Random random) {
    int h = someHandle(random, m, "012345");
    int set = someHandle(random, m, "4");
    int i = random.nextInt(1 + random.nextInt(9));
    int t = random.nextInt(6);
    switch (random.nextInt(16)) {
      case 0: case 1: return compare(x, m, "handle", h, random.nextInt(7));
      case 2: return compare(x, m, "other", h);
      case 3: return compare(x, m, "listed", set);
      case 4: return compare(x, m, "shows", set);
      case 5: return compare(x, m, "depth", set);
      case 6: return compare(x, m, "shown", set, i);
      case 7: return compare(x, m, "sleeper", set, random.nextInt(4));
      case 8: return compare(x, m, "got", t, i, random.nextInt(2));
      case 9: case 10: return compare(x, m, "task", t, random.nextInt(10));
      case 11: return compare(x, m, "about", random.nextInt(8));
      default: return compare(x, m, "interest", set, i, random.nextInt(10));
    }
  }

  static String compare(ReadyBell x, Model m, String name, int... a) {
    int got = real(x, name, a);
    int due = m.call(name, a);
    return got == due ? null : name + Arrays.toString(a) + " answered " + got + ", the model says " + due;
  }

  /** A run of calls, with so many questions behind each one: all of it within the 512 that are promised. */
  static boolean run(long seed, int calls, int questions) {
    Random random = new Random(seed);
    ReadyBell x = new ReadyBell();
    Model m = new Model();
    List<String> log = new ArrayList<>();
    int sum = weigh(CALLS);
    String last = "";
    String[] beginning = BEGINNINGS[random.nextInt(BEGINNINGS.length)];
    for (int n = 0; n < calls; n++) {
      int pick = random.nextInt(sum);
      String[] call = null;
      for (String c : CALLS) {
        call = c.split(" ");
        pick -= Integer.parseInt(call[1]);
        if (pick < 0) break;
      }
      if (n < beginning.length) call = callNamed(beginning[n]);
      else if (last.equals("undo") || last.equals("redo")) call = again(random, call, "undo", "redo");
      else if (last.equals("await")) call = again(random, call, "await", "wakes");
      else if (last.equals("plan")) call = again(random, call, "plan", "orders");
      last = call[0];
      String name = call[0];
      int[] a = arguments(name, call.length > 2 ? call[2] : "", random, m);
      int got;
      try {
        got = real(x, name, a);
      } catch (RuntimeException e) {
        System.out.println("seed " + seed + ": " + name + Arrays.toString(a) + " threw " + e);
        return false;
      }
      int due = m.call(name, a);
      log.add(name + Arrays.toString(a) + " = " + due);
      COUNTS.merge(name + (due > 0 ? " +" : " " + due), 1, Integer::sum);
      String wrong = got == due ? null : name + " answered " + got;
      for (int k = 0; k < questions && wrong == null; k++) wrong = askSome(x, m, random);
      if (wrong != null) {
        System.out.println("seed " + seed + ", behind:");
        for (String line : log) System.out.println("  " + line);
        System.out.println(wrong);
        return false;
      }
    }
    return true;
  }

  static final java.util.TreeMap<String, Integer> COUNTS = new java.util.TreeMap<>();

  public static void main(String[] args) {
    int runs = args.length > 0 ? Integer.parseInt(args[0]) : 600;
    long first = args.length > 1 ? Long.parseLong(args[1]) : 1;
    for (int k = 0; k < runs; k++) {
      int questions = k % 8 == 0 ? 0 : k % 8 == 1 ? 2 : 7;
      if (!run(first + k, 512 / (1 + questions), questions)) System.exit(1);
    }
    if (args.length > 2) COUNTS.forEach((what, n) -> System.out.println(what + ": " + n));
    System.out.println(runs + " runs went as the model goes");
  }
}
