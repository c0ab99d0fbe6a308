import java.util.ArrayList;
import java.util.List;
import java.util.Random;

/**
 * Long runs of calls, drawn from a fixed seed, against a second telling of the document that shares
 * nothing with the class: real rows and Java's own exceptions for sheets, levels as fractions,
 * turns on copies of lists.
 */
public final class ModelTest {
  private static final int RUNS = 400, MOST_CALLS = 512;
  private static final String[] NAMES = {"head", "basin", "back", "out", "leak", "read", "info", "chamber", "boat",
      "leave", "waits", "rule", "serve", "next", "turn", "ledger", "wipe", "total", "step", "ahead", "better",
      "needless", "sheet", "lose", "lay", "get", "copy", "write", "count", "digest"};
  private static final int[] ODD = {Integer.MIN_VALUE, Integer.MAX_VALUE, -2, -1, 61, 100, 1 << 16, 32};

  private final Random random;
  private final Check check;
  private final int[] weights = new int[NAMES.length];

  private ModelTest(Random random, Check check) {
    this.random = random;
    this.check = check;
    for (int k = 0; k < weights.length; k++) {
      weights[k] = 1 + random.nextInt(12);
    }
    weights[14] += random.nextInt(30);
    weights[2] = random.nextInt(3);
    weights[16] = random.nextInt(3);
    weights[29] = 1;
  }

  public static void main(String[] args) {
    Check check = new Check();
    for (int run = 0; run < RUNS; run++) {
      check.on("run " + run);
      new ModelTest(new Random(7919L * run + 1), check).oneRun();
    }
    check.finish();
  }

  private void oneRun() {
    ThriftLock x = new ThriftLock();
    Model m = new Model();
    int calls = 0;
    // Two may be made at a time, and the digest is the last of all that are promised an answer.
    while (calls + 2 < MOST_CALLS) {
      String name = pick();
      oneCall(x, m, name);
      calls++;
      if (random.nextInt(4) == 0) {
        check.due("count(8) behind " + name, x.count(8), m.count(8));
        calls++;
      }
    }
    check.due("digest() at the end", x.digest(), m.digest());
  }

  private String pick() {
    int sum = 0;
    for (int w : weights) sum += w;
    int at = random.nextInt(sum);
    for (int k = 0; k < weights.length; k++) {
      at -= weights[k];
      if (at < 0) return NAMES[k];
    }
    return NAMES[0];
  }

  /** Mostly from low to high, now and then beside it or far off. */
  private int in(int low, int high) {
    int kind = random.nextInt(40);
    if (kind == 0) return ODD[random.nextInt(ODD.length)];
    if (kind == 1) return low - 1;
    if (kind == 2) return high + 1;
    return low + random.nextInt(high - low + 1);
  }

  private void oneCall(ThriftLock x, Model m, String name) {
    int a, b, c, d, e;
    switch (name) {
      case "head": a = in(1, 60); due(name, x.head(a), m.head(a), a); break;
      case "basin": a = in(0, 59); b = in(1, 60); c = in(1, 3);
        due(name, x.basin(a, b, c), m.basin(a, b, c), a, b, c); break;
      case "back": due(name, x.back(), m.back()); break;
      case "out": a = in(0, 3); due(name, x.out(a), m.out(a), a); break;
      case "leak": a = in(0, 3); b = in(0, 3); due(name, x.leak(a, b), m.leak(a, b), a, b); break;
      case "read": a = in(0, 3); due(name, x.read(a), m.read(a), a); break;
      case "info": a = in(0, 3); b = in(0, 6); due(name, x.info(a, b), m.info(a, b), a, b); break;
      case "chamber": a = in(0, 2); due(name, x.chamber(a), m.chamber(a), a); break;
      case "boat": a = in(0, 1); due(name, x.boat(a), m.boat(a), a); break;
      case "leave": a = in(0, 99); due(name, x.leave(a), m.leave(a), a); break;
      case "waits": a = in(0, 1); b = in(-1, 15); due(name, x.waits(a, b), m.waits(a, b), a, b); break;
      case "rule": a = in(0, 1); due(name, x.rule(a), m.rule(a), a); break;
      case "serve": due(name, x.serve(), m.serve()); break;
      case "next": a = in(0, 1); due(name, x.next(a), m.next(a), a); break;
      case "turn": due(name, x.turn(), m.turn()); break;
      case "ledger": a = in(0, 59); b = in(0, 8); due(name, x.ledger(a, b), m.ledger(a, b), a, b); break;
      case "wipe": due(name, x.wipe(), m.wipe()); break;
      case "total": a = in(0, 4); due(name, x.total(a), m.total(a), a); break;
      case "step": a = in(-1, 59); due(name, x.step(a), m.step(a), a); break;
      case "ahead": a = in(0, 40); due(name, x.ahead(a), m.ahead(a), a); break;
      case "better": a = in(0, 3); b = in(0, 1); due(name, x.better(a, b), m.better(a, b), a, b); break;
      case "needless": a = in(0, 1); due(name, x.needless(a), m.needless(a), a); break;
      case "sheet": a = in(0, 3); b = in(0, 2); c = in(0, random.nextBoolean() ? 60 : 9);
        due(name, x.sheet(a, b, c), m.sheet(a, b, c), a, b, c); break;
      case "lose": a = in(0, 3); due(name, x.lose(a), m.lose(a), a); break;
      case "lay": a = in(0, 3); b = in(0, 2); c = in(0, 12); d = random.nextBoolean() ? in(1, 3) : random.nextInt();
        due(name, x.lay(a, b, c, d), m.lay(a, b, c, d), a, b, c, d); break;
      case "get": a = in(0, 3); b = in(0, 2); c = in(0, 20); due(name, x.get(a, b, c), m.get(a, b, c), a, b, c); break;
      case "copy": a = in(0, 3); b = in(0, 9); c = in(0, 3); d = in(0, 9); e = in(0, 9);
        due(name, x.copy(a, b, c, d, e), m.copy(a, b, c, d, e), a, b, c, d, e); break;
      case "write": a = in(0, 3); due(name, x.write(a), m.write(a), a); break;
      case "count": a = in(0, 8); due(name, x.count(a), m.count(a), a); break;
      default: due(name, x.digest(), m.digest()); break;
    }
  }

  private void due(String name, long got, long want, int... with) {
    StringBuilder call = new StringBuilder(name).append('(');
    for (int k = 0; k < with.length; k++) {
      call.append(k == 0 ? "" : ", ").append(with[k]);
    }
    check.due(call.append(')').toString(), got, want);
  }

  // ---- the second telling

  private static final class Basin implements Cloneable {
    int bottom, room, wide, leak, slices;
    boolean out;

    /** The level of the basin with so many slices, times six, so that any width divides it. */
    int level36(int with) {
      return 36 * bottom + 36 / wide * with;
    }

    @Override
    public Basin clone() {
      try {
        return (Basin) super.clone();
      } catch (CloneNotSupportedException never) {
        throw new IllegalStateException(never);
      }
    }
  }

  private record Boat(int number, int way) {}

  private record Turn(int boat, boolean filled, List<Integer> steps, int leaked) {
    int of(int basin) {
      return (int) steps.stream().filter(s -> s == basin).count();
    }
  }

  private static final class Model {
    int head = 30;
    boolean full;
    List<Basin> basins = new ArrayList<>();
    List<Boat> waiting = new ArrayList<>();
    int came, rule, drawn, lost, leaked, turns, finding;
    List<Turn> ledger = new ArrayList<>();
    Object[] sheets = new Object[4];

    static boolean not(int v, int low, int high) {
      return v < low || v > high;
    }

    int head(int h) {
      if (not(h, 1, 60)) return -2;
      if (full) return -3;
      int was = head;
      head = h;
      return was;
    }

    int basin(int bottom, int room, int wide) {
      if (not(bottom, 0, 59) || not(room, 1, 60) || not(wide, 1, 3)) return -2;
      if (basins.size() == 4) return -4;
      Basin b = new Basin();
      b.bottom = bottom;
      b.room = room;
      b.wide = wide;
      basins.add(b);
      return basins.size();
    }

    int back() {
      if (basins.isEmpty() || basins.get(basins.size() - 1).slices > 0) return -3;
      basins.remove(basins.size() - 1);
      return basins.size();
    }

    int out(int i) {
      if (not(i, 0, basins.size() - 1)) return -2;
      basins.get(i).out = !basins.get(i).out;
      int bits = 0;
      for (int k = 0; k < basins.size(); k++) {
        if (basins.get(k).out) bits += 1 << k;
      }
      return bits;
    }

    int leak(int i, int n) {
      if (not(i, 0, basins.size() - 1) || not(n, 0, 3)) return -2;
      int was = basins.get(i).leak;
      basins.get(i).leak = n;
      return was;
    }

    int read(int s) {
      if (not(s, 0, 3)) return -2;
      if (sheets[s] == null) return found(1);
      int came = 0;
      while (3 * came + 3 <= size(s)) {
        if (basin(item(s, 3 * came), item(s, 3 * came + 1), item(s, 3 * came + 2)) < 0) break;
        came++;
      }
      return came;
    }

    int info(int i, int what) {
      if (not(i, 0, basins.size() - 1) || not(what, 0, 6)) return -2;
      Basin b = basins.get(i);
      return new int[] {b.bottom, b.room, b.wide, b.leak, b.slices, b.level36(b.slices) / 6, b.out ? 1 : 0}[what];
    }

    int chamber(int what) {
      if (not(what, 0, 2)) return -2;
      int slices = full ? head : 0;
      return new int[] {slices, slices * 6, head}[what];
    }

    int waitingOf(int way) {
      return (int) waiting.stream().filter(b -> b.way == way).count();
    }

    int boat(int way) {
      if (not(way, 0, 1)) return -2;
      if (waitingOf(way) == 16 || came == 100) return -4;
      waiting.add(new Boat(came, way));
      return came++;
    }

    int leave(int boat) {
      if (boat < 0) return -2;
      for (Boat b : waiting) {
        if (b.number == boat) {
          waiting.remove(b);
          return waitingOf(b.way);
        }
      }
      return -3;
    }

    int waits(int way, int i) {
      if (not(way, 0, 1) || not(i, -1, 15)) return -2;
      if (i == -1) return waitingOf(way);
      return waiting.stream().filter(b -> b.way == way).skip(i).findFirst().map(Boat::number).orElse(-1);
    }

    int rule(int v) {
      if (not(v, 0, 1)) return -2;
      int was = rule;
      rule = v;
      return was;
    }

    boolean atItsSide(Boat b) {
      return full == (b.way == 0);
    }

    Boat nextBoat() {
      if (waiting.isEmpty()) return null;
      Boat first = waiting.get(0);
      return rule == 0 ? first : waiting.stream().filter(this::atItsSide).findFirst().orElse(first);
    }

    int serve() {
      Boat b = nextBoat();
      if (b == null) return -3;
      if (ledger.size() + (atItsSide(b) ? 1 : 2) > 60) return -4;
      if (!atItsSide(b)) turnWith(-1);
      turnWith(b.number);
      waiting.remove(b);
      return b.number;
    }

    int next(int what) {
      if (not(what, 0, 1)) return -2;
      Boat b = nextBoat();
      if (b == null) return what == 0 ? -1 : 0;
      return what == 0 ? b.number : atItsSide(b) ? 1 : 2;
    }

    /** What a turn does to the basins that it is given. */
    static Turn run(List<Basin> basins, boolean fills, int head, int boat) {
      List<Integer> steps = new ArrayList<>();
      for (int k = 1; k <= head; k++) {
        int chamber36 = 36 * (fills ? k : head - k);
        int chosen = -1;
        for (int i = basins.size() - 1; i >= 0; i--) {
          Basin b = basins.get(i);
          int with = b.slices + (fills ? -1 : 1);
          boolean may = !b.out && with >= 0 && with <= b.room
              && (fills ? b.level36(with) >= chamber36 : b.level36(with) <= chamber36);
          if (!may) continue;
          if (chosen >= 0) {
            Basin best = basins.get(chosen);
            int bestLevel = best.level36(best.slices + (fills ? -1 : 1));
            if (fills ? b.level36(with) > bestLevel : b.level36(with) < bestLevel) continue;
          }
          chosen = i;
        }
        if (chosen >= 0) basins.get(chosen).slices += fills ? -1 : 1;
        steps.add(chosen);
      }
      int leaked = 0;
      for (Basin b : basins) {
        int less = b.slices < b.leak ? b.slices : b.leak;
        b.slices -= less;
        leaked += less;
      }
      return new Turn(boat, fills, steps, leaked);
    }

    Turn turnWith(int boat) {
      Turn t = run(basins, !full, head, boat);
      ledger.add(t);
      if (t.filled) drawn += t.of(-1); else lost += t.of(-1);
      leaked += t.leaked;
      turns++;
      full = !full;
      return t;
    }

    int turn() {
      return ledger.size() == 60 ? -4 : turnWith(-1).of(-1);
    }

    int ledger(int i, int what) {
      if (not(i, 0, ledger.size() - 1) || not(what, 0, 8)) return -2;
      Turn t = ledger.get(i);
      return new int[] {t.boat, t.filled ? 1 : 0, t.steps.size() - t.of(-1), t.of(-1), t.leaked,
          t.of(0), t.of(1), t.of(2), t.of(3)}[what];
    }

    int wipe() {
      int was = ledger.size();
      ledger.clear();
      return was;
    }

    int total(int what) {
      if (not(what, 0, 4)) return -2;
      return new int[] {drawn, lost, leaked, basins.stream().mapToInt(b -> b.slices).sum(), turns}[what];
    }

    List<Basin> copyOfBasins() {
      List<Basin> copies = new ArrayList<>();
      for (Basin b : basins) copies.add(b.clone());
      return copies;
    }

    List<Integer> steps() {
      return run(copyOfBasins(), !full, head, -1).steps;
    }

    int step(int i) {
      if (not(i, -1, 59)) return -2;
      List<Integer> steps = steps();
      return i == -1 ? steps.size() : i < steps.size() ? steps.get(i) : -1;
    }

    int drawnAhead(List<Basin> copies, int n) {
      int sum = 0;
      boolean fills = !full;
      for (int k = 0; k < n; k++) {
        Turn t = run(copies, fills, head, -1);
        if (fills) sum += t.of(-1);
        fills = !fills;
      }
      return sum;
    }

    int ahead(int n) {
      return not(n, 0, 40) ? -2 : drawnAhead(copyOfBasins(), n);
    }

    int better(int i, int what) {
      if (not(i, 0, basins.size() - 1) || not(what, 0, 1)) return -2;
      int[] sums = new int[60];
      int least = 0;
      for (int bottom = 0; bottom < 60; bottom++) {
        List<Basin> copies = copyOfBasins();
        copies.get(i).bottom = bottom;
        sums[bottom] = drawnAhead(copies, 10);
        if (sums[bottom] < sums[least]) least = bottom;
      }
      return what == 0 ? least : sums[least];
    }

    int needless(int what) {
      if (not(what, 0, 1)) return -2;
      int which = -1;
      int least = -1;
      for (int i = 0; i < basins.size(); i++) {
        if (basins.get(i).out) continue;
        List<Basin> copies = copyOfBasins();
        copies.get(i).out = true;
        int sum = drawnAhead(copies, 10);
        if (which == -1 || sum < least) {
          which = i;
          least = sum;
        }
      }
      return what == 0 ? which : least;
    }

    // ---- sheets, with what Java itself finds

    int found(int number) {
      finding = number;
      return -10 - number;
    }

    int found(RuntimeException e) {
      if (e instanceof NullPointerException) return found(1);
      if (e instanceof IndexOutOfBoundsException) return found(2);
      if (e instanceof ClassCastException) return found(3);
      if (e instanceof ArrayStoreException) return found(4);
      if (e instanceof NegativeArraySizeException) return found(5);
      throw e;
    }

    int size(int s) {
      return java.lang.reflect.Array.getLength(sheets[s]);
    }

    int item(int s, int i) {
      return java.lang.reflect.Array.getInt(sheets[s], i);
    }

    int sheet(int s, int form, int n) {
      if (not(s, 0, 3) || not(form, 0, 2) || n > 60) return -2;
      try {
        sheets[s] = form == 0 ? new byte[n] : form == 1 ? new short[n] : (Object) new int[n];
        return n;
      } catch (RuntimeException e) {
        return found(e);
      }
    }

    int lose(int s) {
      if (not(s, 0, 3)) return -2;
      if (sheets[s] == null) return found(1);
      int had = size(s);
      sheets[s] = null;
      return had;
    }

    int lay(int s, int form, int i, int v) {
      if (not(s, 0, 3) || not(form, 0, 2)) return -2;
      try {
        if (form == 0) ((byte[]) sheets[s])[i] = (byte) v;
        if (form == 1) ((short[]) sheets[s])[i] = (short) v;
        if (form == 2) ((int[]) sheets[s])[i] = v;
        return 1;
      } catch (RuntimeException e) {
        return found(e);
      }
    }

    int get(int s, int form, int i) {
      if (not(s, 0, 3) || not(form, 0, 2)) return Integer.MIN_VALUE;
      try {
        return form == 0 ? ((byte[]) sheets[s])[i] : form == 1 ? ((short[]) sheets[s])[i] : ((int[]) sheets[s])[i];
      } catch (RuntimeException e) {
        found(e);
        return Integer.MIN_VALUE;
      }
    }

    int copy(int s, int i, int t, int j, int n) {
      if (not(s, 0, 3) || not(t, 0, 3)) return -2;
      try {
        System.arraycopy(sheets[s], i, sheets[t], j, n);
        return 1;
      } catch (RuntimeException e) {
        return found(e);
      }
    }

    int write(int s) {
      if (not(s, 0, 3)) return -2;
      if (sheets[s] == null) return found(1);
      List<Integer> steps = steps();
      int n = Math.min(size(s), steps.size());
      int form = sheets[s] instanceof byte[] ? 0 : sheets[s] instanceof short[] ? 1 : 2;
      for (int i = 0; i < n; i++) lay(s, form, i, steps.get(i));
      return n;
    }

    int count(int what) {
      if (not(what, 0, 8)) return -2;
      return new int[] {basins.size(), waiting.size(), ledger.size(), chamber(0), total(3), drawn, lost, came,
          finding}[what];
    }

    long digest() {
      List<Integer> told = new ArrayList<>();
      for (int k = 0; k <= 7; k++) told.add(count(k));
      for (int i = 0; i < basins.size(); i++) {
        for (int k = 0; k <= 6; k++) told.add(info(i, k));
        told.add(better(i, 0));
        told.add(better(i, 1));
      }
      for (int k = 0; k <= 2; k++) told.add(chamber(k));
      for (int way = 0; way <= 1; way++) {
        told.addAll(List.of(waits(way, -1), waits(way, 0), waits(way, 3)));
      }
      told.addAll(List.of(next(0), next(1)));
      for (int i = 0; i < ledger.size(); i++) {
        for (int k = 0; k <= 8; k++) told.add(ledger(i, k));
      }
      for (int k = 0; k <= 4; k++) told.add(total(k));
      for (int i = -1; i <= 40; i++) told.add(step(i));
      told.addAll(List.of(ahead(1), ahead(2), ahead(10), needless(0), needless(1)));
      long h = 17;
      for (int v : told) h = 31 * h + v;
      return h;
    }
  }
}
