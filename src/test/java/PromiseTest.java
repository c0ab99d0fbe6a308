/** Each promise by itself: ordinary inputs, the edges that the document names, wrong inputs. */
public final class PromiseTest {
  private static final int LEAST = Integer.MIN_VALUE, MOST = Integer.MAX_VALUE;
  private static final int NONE = ThriftLock.NONE, BAD = ThriftLock.BAD;
  private static final int NOT = ThriftLock.NOT, FULL = ThriftLock.FULL;
  private static final int NULL = -11, INDEX = -12, CAST = -13, STORE = -14, SIZE = -15;
  private static final int BYTES = 0, SHORTS = 1, INTS = 2;
  private static final Check c = new Check();

  public static void main(String[] args) {
    newObject();
    head();
    basin();
    back();
    out();
    leak();
    read();
    info();
    chamber();
    boat();
    leave();
    waits();
    rule();
    serve();
    serveWhenLedgerIsShort();
    next();
    turnEmptiesDownhill();
    turnFillsDownhill();
    turnAndLedgerRoom();
    ledger();
    wipe();
    total();
    step();
    ahead();
    better();
    needless();
    sheet();
    lose();
    lay();
    get();
    copy();
    write();
    count();
    digest();
    c.finish();
  }

  // ---- helpers

  private static ThriftLock withHead(int h) {
    ThriftLock x = new ThriftLock();
    x.head(h);
    return x;
  }

  private static void turns(ThriftLock x, int n) {
    for (int k = 0; k < n; k++) {
      x.turn();
    }
  }

  private static void boats(ThriftLock x, int way, int n) {
    for (int k = 0; k < n; k++) {
      x.boat(way);
    }
  }

  private static void layAll(ThriftLock x, int s, int form, int... items) {
    x.sheet(s, form, items.length);
    for (int i = 0; i < items.length; i++) {
      x.lay(s, form, i, items[i]);
    }
  }

  private static void counts(ThriftLock x, int... want) {
    for (int what = 0; what < want.length; what++) {
      c.due("count(" + what + ")", x.count(what), want[what]);
    }
  }

  private static void infos(ThriftLock x, int i, int... want) {
    for (int what = 0; what < want.length; what++) {
      c.due("info(" + i + ", " + what + ")", x.info(i, what), want[what]);
    }
  }

  private static void row(ThriftLock x, int i, int... want) {
    for (int what = 0; what < want.length; what++) {
      c.due("ledger(" + i + ", " + what + ")", x.ledger(i, what), want[what]);
    }
  }

  private static void steps(ThriftLock x, int... want) {
    c.due("step(NONE)", x.step(NONE), want.length);
    for (int i = 0; i < 60; i++) {
      c.due("step(" + i + ")", x.step(i), i < want.length ? want[i] : NONE);
    }
  }

  private static void items(ThriftLock x, int s, int form, int... want) {
    for (int i = 0; i < want.length; i++) {
      c.due("get(" + s + ", " + form + ", " + i + ")", x.get(s, form, i), want[i]);
    }
  }

  // ---- the chamber, basins

  private static void newObject() {
    c.on("1 a new object");
    c.due("NONE", ThriftLock.NONE, -1);
    c.due("BAD", ThriftLock.BAD, -2);
    c.due("NOT", ThriftLock.NOT, -3);
    c.due("FULL", ThriftLock.FULL, -4);
    ThriftLock x = new ThriftLock();
    counts(x, 0, 0, 0, 0, 0, 0, 0, 0, 0);
    c.due("chamber(0)", x.chamber(0), 0);
    c.due("chamber(1)", x.chamber(1), 0);
    c.due("chamber(2)", x.chamber(2), 30);
    c.due("waits(0, NONE)", x.waits(0, NONE), 0);
    c.due("waits(1, NONE)", x.waits(1, NONE), 0);
    c.due("total(4)", x.total(4), 0);
    c.due("rule(0)", x.rule(0), 0);
    for (int s = 0; s < 4; s++) {
      c.due("lose(" + s + ")", x.lose(s), NULL);
    }
    ThriftLock y = new ThriftLock();
    c.due("count(8) of another object", y.count(8), 0);
  }

  private static void head() {
    c.on("2 head");
    ThriftLock x = new ThriftLock();
    c.due("head(0)", x.head(0), BAD);
    c.due("head(61)", x.head(61), BAD);
    c.due("head(-1)", x.head(-1), BAD);
    c.due("head(LEAST)", x.head(LEAST), BAD);
    c.due("head(MOST)", x.head(MOST), BAD);
    c.due("chamber(2)", x.chamber(2), 30);
    c.due("head(1)", x.head(1), 30);
    c.due("head(60)", x.head(60), 1);
    c.due("head(7)", x.head(7), 60);
    c.due("chamber(0)", x.chamber(0), 0);
    x.turn();
    c.due("chamber(0)", x.chamber(0), 7);
    c.due("head(8) while full", x.head(8), NOT);
    c.due("head(0) while full", x.head(0), BAD);
    c.due("head(61) while full", x.head(61), BAD);
    c.due("chamber(2)", x.chamber(2), 7);
    x.turn();
    c.due("head(8)", x.head(8), 7);
    c.due("chamber(2)", x.chamber(2), 8);
  }

  private static void basin() {
    c.on("3 basin");
    ThriftLock x = new ThriftLock();
    c.due("basin(-1, 1, 1)", x.basin(-1, 1, 1), BAD);
    c.due("basin(60, 1, 1)", x.basin(60, 1, 1), BAD);
    c.due("basin(0, 0, 1)", x.basin(0, 0, 1), BAD);
    c.due("basin(0, 61, 1)", x.basin(0, 61, 1), BAD);
    c.due("basin(0, 1, 0)", x.basin(0, 1, 0), BAD);
    c.due("basin(0, 1, 4)", x.basin(0, 1, 4), BAD);
    c.due("basin(LEAST, MOST, LEAST)", x.basin(LEAST, MOST, LEAST), BAD);
    c.due("count(0)", x.count(0), 0);
    c.due("basin(0, 1, 1)", x.basin(0, 1, 1), 1);
    c.due("basin(59, 60, 3)", x.basin(59, 60, 3), 2);
    c.due("basin(30, 30, 2)", x.basin(30, 30, 2), 3);
    c.due("basin(30, 30, 2)", x.basin(30, 30, 2), 4);
    infos(x, 0, 0, 1, 1, 0, 0, 0, 0);
    infos(x, 1, 59, 60, 3, 0, 0, 354, 0);
    infos(x, 2, 30, 30, 2, 0, 0, 180, 0);
    c.due("basin(1, 1, 1), the fifth", x.basin(1, 1, 1), FULL);
    c.due("basin(1, 1, 4), the fifth", x.basin(1, 1, 4), BAD);
    c.due("count(0)", x.count(0), 4);
  }

  private static void back() {
    c.on("4 back");
    ThriftLock x = withHead(10);
    c.due("back()", x.back(), NOT);
    x.basin(2, 3, 1);
    x.basin(5, 2, 1);
    c.due("back()", x.back(), 1);
    c.due("info(1, 0)", x.info(1, 0), BAD);
    c.due("back()", x.back(), 0);
    c.due("back()", x.back(), NOT);
    x.basin(2, 3, 1);
    turns(x, 2);
    c.due("info(0, 4)", x.info(0, 4), 3);
    c.due("back() of one that holds", x.back(), NOT);
    c.due("count(0)", x.count(0), 1);
    x.basin(59, 1, 1);
    c.due("back() of an empty one behind it", x.back(), 1);
    // A basin that comes in the place of another has nothing of it.
    x.basin(59, 1, 1);
    x.leak(1, 3);
    c.due("out(1)", x.out(1), 2);
    c.due("back() of one that is out", x.back(), 1);
    c.due("out(0)", x.out(0), 1);
    x.basin(4, 5, 2);
    infos(x, 1, 4, 5, 2, 0, 0, 24, 0);
    c.due("out(1)", x.out(1), 3);
  }

  private static void out() {
    c.on("5 out");
    ThriftLock x = withHead(10);
    c.due("out(0)", x.out(0), BAD);
    for (int i = 0; i < 4; i++) {
      x.basin(i, 2, 1);
    }
    c.due("out(-1)", x.out(-1), BAD);
    c.due("out(4)", x.out(4), BAD);
    c.due("out(32)", x.out(32), BAD);
    c.due("out(LEAST)", x.out(LEAST), BAD);
    c.due("out(2)", x.out(2), 4);
    c.due("out(0)", x.out(0), 5);
    c.due("out(3)", x.out(3), 13);
    c.due("out(1)", x.out(1), 15);
    c.due("out(2)", x.out(2), 11);
    c.due("info(2, 6)", x.info(2, 6), 0);
    c.due("info(3, 6)", x.info(3, 6), 1);
    turns(x, 2);
    c.due("info(2, 4)", x.info(2, 4), 2);
    c.due("info(3, 4), out", x.info(3, 4), 0);
    x.out(2);
    turns(x, 1);
    c.due("info(2, 4), out: none comes from it", x.info(2, 4), 2);
    c.due("total(0)", x.total(0), 20);
  }

  private static void leak() {
    c.on("6 leak");
    ThriftLock x = withHead(10);
    c.due("leak(0, 1)", x.leak(0, 1), BAD);
    x.basin(0, 5, 1);
    c.due("leak(0, -1)", x.leak(0, -1), BAD);
    c.due("leak(0, 4)", x.leak(0, 4), BAD);
    c.due("leak(-1, 1)", x.leak(-1, 1), BAD);
    c.due("leak(1, 1)", x.leak(1, 1), BAD);
    c.due("leak(0, 3)", x.leak(0, 3), 0);
    c.due("leak(0, 0)", x.leak(0, 0), 3);
    c.due("leak(0, 3)", x.leak(0, 3), 0);
    c.due("leak(0, 4)", x.leak(0, 4), BAD);
    c.due("info(0, 3)", x.info(0, 3), 3);
    x.turn();
    c.due("ledger(0, 4)", x.ledger(0, 4), 0);
    x.turn();
    // Five came to it, three leaked.
    c.due("ledger(1, 5)", x.ledger(1, 5), 5);
    c.due("ledger(1, 4)", x.ledger(1, 4), 3);
    c.due("info(0, 4)", x.info(0, 4), 2);
    x.out(0);
    x.turn();
    c.due("ledger(2, 4), out, less than its leak", x.ledger(2, 4), 2);
    c.due("info(0, 4)", x.info(0, 4), 0);
    c.due("total(2)", x.total(2), 5);
    // Two basins leak behind one turn.
    ThriftLock y = withHead(10);
    y.basin(0, 5, 1);
    y.basin(5, 2, 1);
    y.leak(0, 1);
    y.leak(1, 2);
    turns(y, 2);
    row(y, 1, NONE, 0, 6, 4, 3, 4, 2, 0, 0);
    c.due("info(0, 4)", y.info(0, 4), 3);
    c.due("info(1, 4)", y.info(1, 4), 0);
  }

  private static void read() {
    c.on("7 read");
    ThriftLock x = new ThriftLock();
    c.due("read(-1)", x.read(-1), BAD);
    c.due("read(4)", x.read(4), BAD);
    c.due("count(8)", x.count(8), 0);
    c.due("read(3)", x.read(3), NULL);
    c.due("count(8)", x.count(8), 1);
    x.sheet(0, BYTES, 0);
    c.due("read(0) of no items", x.read(0), 0);
    layAll(x, 0, BYTES, 5, 9);
    c.due("read(0), none whole", x.read(0), 0);
    layAll(x, 0, SHORTS, 5, 9, 2, 59, 60, 3, 1, 1);
    c.due("read(0), the third not whole", x.read(0), 2);
    infos(x, 0, 5, 9, 2, 0, 0, 30, 0);
    infos(x, 1, 59, 60, 3, 0, 0, 354, 0);
    layAll(x, 1, INTS, 1, 1, 1, 2, 2, 2, 3, 3, 3);
    c.due("read(1), room for two", x.read(1), 2);
    infos(x, 3, 2, 2, 2, 0, 0, 12, 0);
    c.due("read(1), no room", x.read(1), 0);
    ThriftLock whole = new ThriftLock();
    layAll(whole, 0, BYTES, 1, 2, 3);
    c.due("read(0), one and nothing else", whole.read(0), 1);
    layAll(whole, 0, BYTES, 1, 2, 3, 4, 5, 1);
    c.due("read(0), two and nothing else", whole.read(0), 2);
    int[][] wrong = {{60, 1, 1}, {-1, 1, 1}, {1, 0, 1}, {1, 61, 1}, {1, 1, 0}, {1, 1, 4}};
    for (int[] w : wrong) {
      ThriftLock y = new ThriftLock();
      layAll(y, 2, BYTES, 1, 2, 3, w[0], w[1], w[2], 1, 2, 3);
      c.due("read(2), the second may not be", y.read(2), 1);
      c.due("count(0)", y.count(0), 1);
      layAll(y, 2, BYTES, w[0], w[1], w[2], 1, 2, 3);
      c.due("read(2), the first may not be", y.read(2), 0);
    }
  }

  private static void info() {
    c.on("8 info");
    ThriftLock x = withHead(20);
    c.due("info(0, 0)", x.info(0, 0), BAD);
    x.basin(1, 4, 1);
    x.basin(2, 5, 2);
    x.basin(3, 7, 3);
    x.leak(1, 2);
    c.due("info(-1, 0)", x.info(-1, 0), BAD);
    c.due("info(3, 0)", x.info(3, 0), BAD);
    c.due("info(0, -1)", x.info(0, -1), BAD);
    c.due("info(0, 7)", x.info(0, 7), BAD);
    c.due("info(LEAST, MOST)", x.info(LEAST, MOST), BAD);
    turns(x, 2);
    x.out(2);
    infos(x, 0, 1, 4, 1, 0, 3, 24, 0);
    infos(x, 1, 2, 5, 2, 2, 3, 21, 0);
    infos(x, 2, 3, 7, 3, 0, 7, 32, 1);
  }

  private static void chamber() {
    c.on("9 chamber");
    ThriftLock x = withHead(13);
    c.due("chamber(-1)", x.chamber(-1), BAD);
    c.due("chamber(3)", x.chamber(3), BAD);
    c.due("chamber(0)", x.chamber(0), 0);
    c.due("chamber(1)", x.chamber(1), 0);
    c.due("chamber(2)", x.chamber(2), 13);
    x.turn();
    c.due("chamber(0)", x.chamber(0), 13);
    c.due("chamber(1)", x.chamber(1), 78);
    c.due("chamber(2)", x.chamber(2), 13);
  }

  // ---- boats

  private static void boat() {
    c.on("10 boat");
    ThriftLock x = new ThriftLock();
    c.due("boat(-1)", x.boat(-1), BAD);
    c.due("boat(2)", x.boat(2), BAD);
    for (int k = 0; k < 16; k++) {
      c.due("boat(0)", x.boat(0), k);
    }
    c.due("boat(0), the 17th that waits", x.boat(0), FULL);
    c.due("boat(2)", x.boat(2), BAD);
    c.due("boat(1)", x.boat(1), 16);
    c.due("count(7)", x.count(7), 17);
    // Boats that went away keep their numbers.
    c.due("leave(3)", x.leave(3), 15);
    c.due("boat(0)", x.boat(0), 17);
    ThriftLock y = new ThriftLock();
    for (int k = 0; k < 100; k++) {
      c.due("boat(" + k % 2 + ")", y.boat(k % 2), k);
      c.due("leave(" + k + ")", y.leave(k), 0);
    }
    c.due("boat(0), the 101st", y.boat(0), FULL);
    c.due("boat(1), the 101st", y.boat(1), FULL);
    c.due("boat(2), the 101st", y.boat(2), BAD);
    c.due("count(7)", y.count(7), 100);
    c.due("count(1)", y.count(1), 0);
  }

  private static void leave() {
    c.on("11 leave");
    ThriftLock x = new ThriftLock();
    c.due("leave(-1)", x.leave(-1), BAD);
    c.due("leave(LEAST)", x.leave(LEAST), BAD);
    c.due("leave(0)", x.leave(0), NOT);
    c.due("leave(MOST)", x.leave(MOST), NOT);
    for (int k = 0; k < 6; k++) {
      x.boat(k % 2);
    }
    c.due("leave(2)", x.leave(2), 2);
    c.due("leave(2)", x.leave(2), NOT);
    c.due("waits(0, 0)", x.waits(0, 0), 0);
    c.due("waits(0, 1)", x.waits(0, 1), 4);
    c.due("waits(0, 2)", x.waits(0, 2), NONE);
    c.due("waits(1, NONE)", x.waits(1, NONE), 3);
    c.due("leave(5)", x.leave(5), 2);
    c.due("leave(1)", x.leave(1), 1);
    c.due("leave(3)", x.leave(3), 0);
    c.due("leave(6)", x.leave(6), NOT);
    c.due("serve()", x.serve(), 0);
    c.due("leave(0), served", x.leave(0), NOT);
    c.due("leave(4)", x.leave(4), 0);
    c.due("count(1)", x.count(1), 0);
  }

  private static void waits() {
    c.on("12 waits");
    ThriftLock x = new ThriftLock();
    c.due("waits(-1, 0)", x.waits(-1, 0), BAD);
    c.due("waits(2, 0)", x.waits(2, 0), BAD);
    c.due("waits(0, -2)", x.waits(0, -2), BAD);
    c.due("waits(0, 16)", x.waits(0, 16), BAD);
    c.due("waits(0, 15)", x.waits(0, 15), NONE);
    x.boat(1);
    boats(x, 0, 16);
    c.due("waits(0, NONE)", x.waits(0, NONE), 16);
    c.due("waits(1, NONE)", x.waits(1, NONE), 1);
    for (int i = 0; i < 16; i++) {
      c.due("waits(0, " + i + ")", x.waits(0, i), i + 1);
      c.due("waits(1, " + i + ")", x.waits(1, i), i == 0 ? 0 : NONE);
    }
  }

  private static void rule() {
    c.on("13 rule");
    ThriftLock x = new ThriftLock();
    c.due("rule(-1)", x.rule(-1), BAD);
    c.due("rule(2)", x.rule(2), BAD);
    c.due("rule(1)", x.rule(1), 0);
    c.due("rule(2)", x.rule(2), BAD);
    c.due("rule(1)", x.rule(1), 1);
    c.due("rule(0)", x.rule(0), 1);
    c.due("rule(0)", x.rule(0), 0);
  }

  private static void serve() {
    c.on("14 serve");
    ThriftLock x = withHead(3);
    c.due("serve()", x.serve(), NOT);
    x.boat(0);
    x.boat(1);
    x.boat(1);
    x.boat(0);
    // By rule 0 the first goes down: the chamber is filled for it.
    c.due("serve()", x.serve(), 0);
    c.due("count(2)", x.count(2), 2);
    row(x, 0, NONE, 1, 0, 3, 0, 0, 0, 0, 0);
    row(x, 1, 0, 0, 0, 3, 0, 0, 0, 0, 0);
    c.due("serve()", x.serve(), 1);
    row(x, 2, 1, 1, 0, 3, 0, 0, 0, 0, 0);
    c.due("serve()", x.serve(), 2);
    row(x, 3, NONE, 0, 0, 3, 0, 0, 0, 0, 0);
    row(x, 4, 2, 1, 0, 3, 0, 0, 0, 0, 0);
    c.due("serve()", x.serve(), 3);
    c.due("count(2)", x.count(2), 6);
    c.due("serve()", x.serve(), NOT);
    c.due("count(1)", x.count(1), 0);
    // By rule 1 none turns the chamber empty while one waits at its side.
    ThriftLock y = withHead(3);
    y.rule(1);
    y.boat(0);
    y.boat(0);
    y.boat(1);
    c.due("serve(), rule 1, empty", y.serve(), 2);
    c.due("serve(), rule 1, full", y.serve(), 0);
    c.due("serve(), rule 1, none at its side", y.serve(), 1);
    c.due("count(2)", y.count(2), 4);
    c.due("ledger(2, 0)", y.ledger(2, 0), NONE);
    c.due("ledger(3, 0)", y.ledger(3, 0), 1);
    y.boat(0);
    y.boat(1);
    y.turn();
    c.due("serve(), rule 1, full", y.serve(), 3);
    // Both turns that a boat takes have their leaks.
    ThriftLock z = withHead(6);
    z.basin(0, 6, 3);
    turns(z, 2);
    z.leak(0, 1);
    z.out(0);
    z.boat(0);
    z.serve();
    c.due("info(0, 4)", z.info(0, 4), 2);
    c.due("ledger(2, 4)", z.ledger(2, 4), 1);
    c.due("ledger(3, 4)", z.ledger(3, 4), 1);
  }

  private static void serveWhenLedgerIsShort() {
    c.on("14 serve, a ledger without room");
    ThriftLock x = withHead(1);
    c.due("serve() with room, none waits", x.serve(), NOT);
    turns(x, 58);
    x.boat(0);
    x.boat(1);
    c.due("serve() that takes the last two", x.serve(), 0);
    c.due("count(2)", x.count(2), 60);
    c.due("serve(), no room", x.serve(), FULL);
    c.due("waits(1, 0)", x.waits(1, 0), 1);
    x.leave(1);
    c.due("serve(), no room, none waits", x.serve(), NOT);
    ThriftLock y = withHead(1);
    turns(y, 59);
    y.boat(1);
    c.due("serve() that takes two, room for one", y.serve(), FULL);
    c.due("count(2)", y.count(2), 59);
    c.due("chamber(0)", y.chamber(0), 1);
    c.due("total(4)", y.total(4), 59);
    y.rule(1);
    c.due("next(1)", y.next(1), 2);
    y.boat(0);
    c.due("serve() that takes one", y.serve(), 1);
    c.due("count(2)", y.count(2), 60);
    c.due("serve()", y.serve(), FULL);
    y.wipe();
    c.due("serve()", y.serve(), 0);
  }

  private static void next() {
    c.on("15 next");
    ThriftLock x = withHead(2);
    c.due("next(-1)", x.next(-1), BAD);
    c.due("next(2)", x.next(2), BAD);
    c.due("next(0)", x.next(0), NONE);
    c.due("next(1)", x.next(1), 0);
    x.boat(0);
    c.due("next(0)", x.next(0), 0);
    c.due("next(1)", x.next(1), 2);
    x.boat(1);
    c.due("next(0)", x.next(0), 0);
    c.due("next(1)", x.next(1), 2);
    x.rule(1);
    c.due("next(0)", x.next(0), 1);
    c.due("next(1)", x.next(1), 1);
    x.turn();
    c.due("next(0)", x.next(0), 0);
    c.due("next(1)", x.next(1), 1);
    x.leave(0);
    c.due("next(0)", x.next(0), 1);
    c.due("next(1)", x.next(1), 2);
    c.due("count(2): next turned nothing", x.count(2), 1);
    c.due("count(1): next served none", x.count(1), 1);
  }

  // ---- turns

  private static void turnEmptiesDownhill() {
    c.on("16 turn, emptying");
    // The chamber has 5 slices (30) once the first has gone.
    ThriftLock high = withHead(6);
    high.basin(5, 60, 1);
    c.due("turn()", high.turn(), 6);
    c.due("turn(): 36 is above 30", high.turn(), 6);
    ThriftLock even = withHead(6);
    even.basin(4, 60, 1);
    even.turn();
    c.due("turn(): 30 is no more than 30", even.turn(), 5);
    row(even, 1, NONE, 0, 1, 5, 0, 1, 0, 0, 0);
    // Room for two only, though more would run downhill.
    ThriftLock narrow = withHead(6);
    narrow.basin(0, 2, 1);
    narrow.turn();
    c.due("turn()", narrow.turn(), 4);
    // Twice as wide: 27, then 30 against 24.
    ThriftLock wide = withHead(6);
    wide.basin(4, 60, 2);
    wide.turn();
    steps(wide, 0, NONE, NONE, NONE, NONE, NONE);
    // Three times as wide: 20, 22, 24 against 30, 24, 18.
    ThriftLock wider = withHead(6);
    wider.basin(3, 60, 3);
    wider.turn();
    steps(wider, 0, 0, NONE, NONE, NONE, NONE);
    // To the greatest level that it would have, then to the next.
    ThriftLock many = withHead(8);
    many.basin(0, 9, 1);
    many.basin(4, 1, 1);
    many.basin(2, 9, 2);
    many.turn();
    // Chamber then 42 36 30 24 18 12 6 0; levels: 1 to 30; 2 to 15, 18, 21, 24 against 12; 0 to 6, 12.
    steps(many, 1, 2, 2, 2, 0, 0, NONE, NONE);
    // Of like ones the least.
    ThriftLock like = withHead(8);
    like.basin(2, 9, 3);
    like.basin(2, 9, 3);
    like.turn();
    c.due("step(0)", like.step(0), 0);
    c.due("step(1)", like.step(1), 0);
    // Twice as wide, it holds one from a turn of a low head: its second and the other's first are at 6.
    ThriftLock first = withHead(2);
    first.basin(0, 9, 2);
    turns(first, 2);
    first.head(8);
    first.basin(0, 9, 1);
    first.turn();
    steps(first, 0, 0, 0, 0, 0, 1, NONE, NONE);
    ThriftLock second = withHead(2);
    second.basin(0, 9, 1);
    second.basin(0, 9, 2);
    second.out(0);
    turns(second, 2);
    second.out(0);
    second.head(8);
    second.turn();
    steps(second, 0, 0, 0, 0, 1, 1, NONE, NONE);
  }

  private static void turnFillsDownhill() {
    c.on("16 turn, filling");
    // A basin at the bottom never gives: its level would be below that of the chamber.
    ThriftLock low = withHead(6);
    low.basin(0, 1, 1);
    turns(low, 2);
    c.due("info(0, 4)", low.info(0, 4), 1);
    c.due("turn()", low.turn(), 6);
    ThriftLock even = withHead(6);
    even.basin(1, 1, 1);
    turns(even, 2);
    c.due("turn(): 6 is no less than 6", even.turn(), 5);
    row(even, 2, NONE, 1, 1, 5, 0, 1, 0, 0, 0);
    // From the least level first, so that the higher one serves later.
    ThriftLock two = withHead(12);
    two.basin(6, 3, 1);
    two.basin(3, 3, 1);
    turns(two, 2);
    c.due("info(0, 4)", two.info(0, 4), 3);
    c.due("info(1, 4)", two.info(1, 4), 3);
    // Chamber then 6 12 18 24 30 36; 1 gives at 30 24 18; 0 at 48 42 36.
    steps(two, 1, 1, 1, 0, 0, 0, NONE, NONE, NONE, NONE, NONE, NONE);
    c.due("turn()", two.turn(), 6);
    // Of like ones the least.
    ThriftLock like = withHead(12);
    like.basin(4, 1, 1);
    like.basin(4, 1, 1);
    turns(like, 2);
    c.due("step(0)", like.step(0), 0);
    c.due("step(1)", like.step(1), 1);
    c.due("step(2)", like.step(2), NONE);
    // A basin that is too low by now is passed over.
    ThriftLock passed = withHead(12);
    passed.basin(1, 4, 1);
    passed.basin(8, 2, 1);
    turns(passed, 2);
    // 0 holds 4 (30): gives at 24, 18 against 6, 12, then 12 against 18 is too low; 1 gives at 54, 48.
    steps(passed, 0, 0, 1, 1, NONE, NONE, NONE, NONE, NONE, NONE, NONE, NONE);
    passed.turn();
    row(passed, 2, NONE, 1, 4, 8, 0, 2, 2, 0, 0);
    c.due("info(0, 4)", passed.info(0, 4), 2);
    c.due("info(1, 4)", passed.info(1, 4), 0);
  }

  private static void turnAndLedgerRoom() {
    c.on("16 turn, a ledger without room");
    ThriftLock x = withHead(4);
    for (int k = 0; k < 60; k++) {
      c.due("turn()", x.turn(), 4);
    }
    c.due("turn(), the 61st", x.turn(), FULL);
    c.due("count(2)", x.count(2), 60);
    c.due("chamber(0)", x.chamber(0), 0);
    c.due("total(4)", x.total(4), 60);
    c.due("total(0)", x.total(0), 120);
    c.due("ahead(40) needs no ledger", x.ahead(40), 80);
    c.due("wipe()", x.wipe(), 60);
    c.due("turn()", x.turn(), 4);
    ThriftLock y = withHead(4);
    y.boat(0);
    y.turn();
    c.due("ledger(0, 0): a turn takes no boat", y.ledger(0, 0), NONE);
    c.due("count(1)", y.count(1), 1);
  }

  private static void ledger() {
    c.on("17 ledger");
    ThriftLock x = withHead(20);
    c.due("ledger(0, 0)", x.ledger(0, 0), BAD);
    x.basin(2, 3, 1);
    x.basin(8, 2, 1);
    x.basin(0, 1, 1);
    x.basin(12, 4, 1);
    x.leak(3, 1);
    x.boat(1);
    x.serve();
    x.turn();
    x.boat(1);
    x.serve();
    row(x, 0, 0, 1, 0, 20, 0, 0, 0, 0, 0);
    row(x, 1, NONE, 0, 10, 10, 1, 3, 2, 1, 4);
    row(x, 2, 1, 1, 7, 13, 0, 2, 2, 0, 3);
    c.due("ledger(-1, 0)", x.ledger(-1, 0), BAD);
    c.due("ledger(3, 0)", x.ledger(3, 0), BAD);
    c.due("ledger(0, -1)", x.ledger(0, -1), BAD);
    c.due("ledger(0, 9)", x.ledger(0, 9), BAD);
    c.due("ledger(LEAST, MOST)", x.ledger(LEAST, MOST), BAD);
    x.back();
    c.due("ledger(1, 8), its basin is gone", x.ledger(1, 8), 4);
  }

  private static void wipe() {
    c.on("18 wipe");
    ThriftLock x = withHead(5);
    c.due("wipe()", x.wipe(), 0);
    turns(x, 3);
    c.due("wipe()", x.wipe(), 3);
    c.due("wipe()", x.wipe(), 0);
    c.due("count(2)", x.count(2), 0);
    c.due("ledger(0, 0)", x.ledger(0, 0), BAD);
    c.due("total(4)", x.total(4), 3);
    c.due("total(0)", x.total(0), 10);
    c.due("chamber(0)", x.chamber(0), 5);
    x.turn();
    row(x, 0, NONE, 0, 0, 5, 0, 0, 0, 0, 0);
  }

  private static void total() {
    c.on("19 total");
    ThriftLock x = withHead(10);
    x.basin(5, 3, 1);
    x.basin(0, 2, 1);
    x.leak(0, 1);
    c.due("total(-1)", x.total(-1), BAD);
    c.due("total(5)", x.total(5), BAD);
    turns(x, 4);
    // 10 drawn; 4 kept (one leaks), 6 lost; 2 come back, 8 drawn; then 3 more kept (one leaks), 7 lost.
    c.due("total(0)", x.total(0), 18);
    c.due("total(1)", x.total(1), 13);
    c.due("total(2)", x.total(2), 2);
    c.due("total(3)", x.total(3), 3);
    c.due("total(4)", x.total(4), 4);
    x.wipe();
    c.due("total(0)", x.total(0), 18);
    c.due("total(1)", x.total(1), 13);
    c.due("total(2)", x.total(2), 2);
    c.due("total(4)", x.total(4), 4);
    x.out(1);
    c.due("total(3), one is out", x.total(3), 3);
  }

  // ---- what would be

  private static void step() {
    c.on("20 step");
    ThriftLock x = withHead(4);
    c.due("step(-2)", x.step(-2), BAD);
    c.due("step(60)", x.step(60), BAD);
    c.due("step(LEAST)", x.step(LEAST), BAD);
    steps(x, NONE, NONE, NONE, NONE);
    x.basin(1, 2, 1);
    x.turn();
    steps(x, 0, NONE, NONE, NONE);
    c.due("info(0, 4): step moved nothing", x.info(0, 4), 0);
    c.due("chamber(0)", x.chamber(0), 4);
    c.due("count(2)", x.count(2), 1);
    x.turn();
    steps(x, 0, NONE, NONE, NONE);
    x.out(0);
    steps(x, NONE, NONE, NONE, NONE);
    ThriftLock y = withHead(60);
    y.basin(58, 1, 1);
    y.turn();
    c.due("step(NONE)", y.step(NONE), 60);
    c.due("step(0)", y.step(0), 0);
    c.due("step(59)", y.step(59), NONE);
    ThriftLock z = withHead(60);
    z.basin(59, 1, 3);
    z.turn();
    c.due("step(0): 356 is above 354", z.step(0), NONE);
  }

  private static void ahead() {
    c.on("21 ahead");
    ThriftLock x = withHead(10);
    c.due("ahead(-1)", x.ahead(-1), BAD);
    c.due("ahead(41)", x.ahead(41), BAD);
    c.due("ahead(0)", x.ahead(0), 0);
    c.due("ahead(1)", x.ahead(1), 10);
    c.due("ahead(2)", x.ahead(2), 10);
    c.due("ahead(3)", x.ahead(3), 20);
    c.due("ahead(40)", x.ahead(40), 200);
    x.turn();
    c.due("ahead(1), full", x.ahead(1), 0);
    c.due("ahead(2), full", x.ahead(2), 10);
    c.due("ahead(40), full", x.ahead(40), 200);
    x.basin(4, 3, 1);
    c.due("ahead(2)", x.ahead(2), 7);
    c.due("ahead(10)", x.ahead(10), 35);
    x.leak(0, 2);
    // Of three that are kept two leak ahead of the next filling.
    c.due("ahead(2), leaking", x.ahead(2), 9);
    x.out(0);
    c.due("ahead(2), out", x.ahead(2), 10);
    c.due("count(2): ahead turned nothing", x.count(2), 1);
    c.due("total(4)", x.total(4), 1);
    c.due("info(0, 4)", x.info(0, 4), 0);
    c.due("chamber(0)", x.chamber(0), 10);
  }

  private static void better() {
    c.on("22 better");
    ThriftLock x = withHead(10);
    c.due("better(0, 0)", x.better(0, 0), BAD);
    x.basin(0, 3, 1);
    c.due("better(-1, 0)", x.better(-1, 0), BAD);
    c.due("better(1, 0)", x.better(1, 0), BAD);
    c.due("better(0, -1)", x.better(0, -1), BAD);
    c.due("better(0, 2)", x.better(0, 2), BAD);
    // Three slices come back from 3 up (18 against 18): 10 drawn first, then 7 four times.
    c.due("better(0, 0)", x.better(0, 0), 3);
    c.due("better(0, 1)", x.better(0, 1), 38);
    c.due("ahead(10), as it is", x.ahead(10), 46);
    c.due("info(0, 0): better moved nothing", x.info(0, 0), 0);
    c.due("info(0, 4)", x.info(0, 4), 0);
    x.out(0);
    c.due("better(0, 0), out", x.better(0, 0), 0);
    c.due("better(0, 1), out", x.better(0, 1), 50);
    x.out(0);
    x.turn();
    c.due("better(0, 0), full", x.better(0, 0), 3);
    c.due("better(0, 1), full", x.better(0, 1), 35);
    // What a basin holds it holds wherever it lies: the slice comes back once, from 1 up, and none follows it.
    ThriftLock y = withHead(2);
    y.basin(0, 1, 1);
    turns(y, 2);
    c.due("info(0, 4)", y.info(0, 4), 1);
    c.due("ahead(10)", y.ahead(10), 10);
    c.due("better(0, 0)", y.better(0, 0), 1);
    c.due("better(0, 1)", y.better(0, 1), 9);
    // The last bottom counts, too: only there do basins 2 and 1 give all that they can ahead of basin 0.
    ThriftLock z = withHead(60);
    z.basin(0, 1, 1);
    z.basin(29, 30, 1);
    z.basin(1, 1, 1);
    for (int k = 0; k < 5; k++) {
      z.out(1);
      z.turn();
      z.out(1);
      z.turn();
    }
    c.due("info(0, 4)", z.info(0, 4), 1);
    c.due("info(1, 4)", z.info(1, 4), 30);
    z.leak(0, 1);
    z.leak(1, 3);
    z.leak(2, 1);
    // 31 of 60 come back, then four times 12 of the 15 that are kept.
    c.due("better(0, 0)", z.better(0, 0), 59);
    c.due("better(0, 1)", z.better(0, 1), 221);
  }

  private static void needless() {
    c.on("23 needless");
    ThriftLock x = withHead(10);
    c.due("needless(-1)", x.needless(-1), BAD);
    c.due("needless(2)", x.needless(2), BAD);
    c.due("needless(0)", x.needless(0), NONE);
    c.due("needless(1)", x.needless(1), NONE);
    x.head(20);
    x.basin(3, 3, 1);
    x.basin(12, 1, 1);
    x.basin(11, 1, 1);
    // Ten turns from empty draw 20 + 4 * 15 with all of them; the two small ones are needed alike.
    c.due("ahead(10)", x.ahead(10), 80);
    c.due("needless(0)", x.needless(0), 1);
    c.due("needless(1)", x.needless(1), 84);
    x.out(1);
    c.due("needless(0), 1 is out", x.needless(0), 2);
    c.due("needless(1), 1 is out", x.needless(1), 88);
    x.out(2);
    c.due("needless(0)", x.needless(0), 0);
    c.due("needless(1)", x.needless(1), 100);
    x.out(0);
    c.due("needless(0), none in use", x.needless(0), NONE);
    c.due("needless(1), none in use", x.needless(1), NONE);
    c.due("out(0): needless put none out", x.out(0), 6);
    c.due("count(2)", x.count(2), 0);
  }

  // ---- sheets

  private static void sheet() {
    c.on("24 sheet");
    ThriftLock x = new ThriftLock();
    c.due("sheet(-1, 0, 1)", x.sheet(-1, 0, 1), BAD);
    c.due("sheet(4, 0, 1)", x.sheet(4, 0, 1), BAD);
    c.due("sheet(0, -1, 1)", x.sheet(0, -1, 1), BAD);
    c.due("sheet(0, 3, 1)", x.sheet(0, 3, 1), BAD);
    c.due("sheet(0, 0, 61)", x.sheet(0, 0, 61), BAD);
    c.due("sheet(0, 0, MOST)", x.sheet(0, 0, MOST), BAD);
    c.due("sheet(4, 0, -1)", x.sheet(4, 0, -1), BAD);
    c.due("sheet(0, 3, -1)", x.sheet(0, 3, -1), BAD);
    c.due("count(8)", x.count(8), 0);
    c.due("sheet(0, 0, -1)", x.sheet(0, 0, -1), SIZE);
    c.due("count(8)", x.count(8), 5);
    c.due("lose(0): it is lost still", x.lose(0), NULL);
    c.due("sheet(0, 0, LEAST)", x.sheet(0, 0, LEAST), SIZE);
    c.due("sheet(3, 2, 60)", x.sheet(3, INTS, 60), 60);
    c.due("lay(3, 2, 59, 7)", x.lay(3, INTS, 59, 7), 1);
    c.due("sheet(3, 2, -1)", x.sheet(3, INTS, -1), SIZE);
    c.due("get(3, 2, 59), as it was", x.get(3, INTS, 59), 7);
    c.due("sheet(3, 2, 61)", x.sheet(3, INTS, 61), BAD);
    c.due("get(3, 2, 59), as it was", x.get(3, INTS, 59), 7);
    c.due("sheet(3, 2, 60), new", x.sheet(3, INTS, 60), 60);
    c.due("get(3, 2, 59)", x.get(3, INTS, 59), 0);
    c.due("sheet(3, 1, 0)", x.sheet(3, SHORTS, 0), 0);
    c.due("lose(3)", x.lose(3), 0);
  }

  private static void lose() {
    c.on("25 lose");
    ThriftLock x = new ThriftLock();
    c.due("lose(-1)", x.lose(-1), BAD);
    c.due("lose(4)", x.lose(4), BAD);
    c.due("count(8)", x.count(8), 0);
    c.due("lose(0)", x.lose(0), NULL);
    c.due("count(8)", x.count(8), 1);
    layAll(x, 0, BYTES, 4, 5, 6);
    layAll(x, 1, BYTES, 1);
    c.due("lose(0)", x.lose(0), 3);
    c.due("lose(0)", x.lose(0), NULL);
    c.due("lose(1)", x.lose(1), 1);
    x.sheet(0, BYTES, 3);
    items(x, 0, BYTES, 0, 0, 0);
  }

  private static void lay() {
    c.on("26 lay");
    ThriftLock x = new ThriftLock();
    c.due("lay(-1, 0, 0, 1)", x.lay(-1, 0, 0, 1), BAD);
    c.due("lay(4, 0, 0, 1)", x.lay(4, 0, 0, 1), BAD);
    c.due("lay(0, -1, 0, 1)", x.lay(0, -1, 0, 1), BAD);
    c.due("lay(0, 3, 0, 1)", x.lay(0, 3, 0, 1), BAD);
    c.due("count(8)", x.count(8), 0);
    c.due("lay(0, 0, 0, 1)", x.lay(0, 0, 0, 1), NULL);
    c.due("count(8)", x.count(8), 1);
    x.sheet(0, SHORTS, 2);
    c.due("lay(0, 0, 9, 1)", x.lay(0, BYTES, 9, 1), CAST);
    c.due("count(8)", x.count(8), 3);
    c.due("lay(0, 2, 0, 1)", x.lay(0, INTS, 0, 1), CAST);
    c.due("lay(0, 3, 0, 1)", x.lay(0, 3, 0, 1), BAD);
    c.due("lay(0, 1, 2, 1)", x.lay(0, SHORTS, 2, 1), INDEX);
    c.due("count(8)", x.count(8), 2);
    c.due("lay(0, 1, -1, 1)", x.lay(0, SHORTS, -1, 1), INDEX);
    c.due("lay(0, 1, LEAST, 1)", x.lay(0, SHORTS, LEAST, 1), INDEX);
    c.due("lay(0, 1, MOST, 1)", x.lay(0, SHORTS, MOST, 1), INDEX);
    items(x, 0, SHORTS, 0, 0);
    layAll(x, 1, BYTES, 127, 128, 255, 256, -129, LEAST, MOST);
    items(x, 1, BYTES, 127, -128, -1, 0, 127, 0, -1);
    layAll(x, 2, SHORTS, 32767, 32768, 65535, 65536, -32769, LEAST, MOST);
    items(x, 2, SHORTS, 32767, -32768, -1, 0, 32767, 0, -1);
    layAll(x, 3, INTS, 65536, -1, LEAST, MOST);
    items(x, 3, INTS, 65536, -1, LEAST, MOST);
  }

  private static void get() {
    c.on("27 get");
    ThriftLock x = new ThriftLock();
    c.due("get(-1, 0, 0)", x.get(-1, 0, 0), LEAST);
    c.due("get(4, 0, 0)", x.get(4, 0, 0), LEAST);
    c.due("get(0, -1, 0)", x.get(0, -1, 0), LEAST);
    c.due("get(0, 3, 0)", x.get(0, 3, 0), LEAST);
    c.due("count(8)", x.count(8), 0);
    c.due("get(0, 0, 0)", x.get(0, 0, 0), LEAST);
    c.due("count(8)", x.count(8), 1);
    layAll(x, 0, INTS, 8, 9);
    c.due("get(0, 1, 5)", x.get(0, SHORTS, 5), LEAST);
    c.due("count(8)", x.count(8), 3);
    c.due("get(0, 2, 2)", x.get(0, INTS, 2), LEAST);
    c.due("count(8)", x.count(8), 2);
    c.due("get(0, 0, 0)", x.get(0, BYTES, 0), LEAST);
    c.due("count(8)", x.count(8), 3);
    c.due("get(0, 2, -1)", x.get(0, INTS, -1), LEAST);
    c.due("count(8)", x.count(8), 2);
    items(x, 0, INTS, 8, 9);
    c.due("count(8)", x.count(8), 2);
  }

  private static void copy() {
    c.on("28 copy");
    ThriftLock x = new ThriftLock();
    layAll(x, 0, BYTES, 1, 2, 3, 4, 5);
    x.sheet(1, BYTES, 3);
    c.due("copy(-1, 0, 0, 0, 0)", x.copy(-1, 0, 0, 0, 0), BAD);
    c.due("copy(4, 0, 0, 0, 0)", x.copy(4, 0, 0, 0, 0), BAD);
    c.due("copy(0, 0, -1, 0, 0)", x.copy(0, 0, -1, 0, 0), BAD);
    c.due("copy(2, 0, 4, 0, 0)", x.copy(2, 0, 4, 0, 0), BAD);
    c.due("count(8)", x.count(8), 0);
    c.due("copy(2, -1, 0, 0, 0)", x.copy(2, -1, 0, 0, 0), NULL);
    c.due("copy(0, -1, 2, 0, 0)", x.copy(0, -1, 2, 0, 0), NULL);
    c.due("copy(2, 0, 2, 0, 0)", x.copy(2, 0, 2, 0, 0), NULL);
    c.due("count(8)", x.count(8), 1);
    x.sheet(3, SHORTS, 5);
    c.due("copy(0, -1, 3, 0, -1)", x.copy(0, -1, 3, 0, -1), STORE);
    c.due("copy(3, 0, 0, 0, 0)", x.copy(3, 0, 0, 0, 0), STORE);
    c.due("count(8)", x.count(8), 4);
    int[][] wrong = {{-1, 0, 1}, {0, -1, 1}, {0, 0, -1}, {0, 0, 4}, {3, 0, 3}, {0, 1, 3}, {6, 0, 0}, {0, 4, 0},
        {MOST, 0, 1}, {0, MOST, 1}, {1, 1, MOST}, {MOST, MOST, MOST}, {LEAST, 0, LEAST}, {0, 0, LEAST}};
    for (int[] w : wrong) {
      c.due("copy(0, " + w[0] + ", 1, " + w[1] + ", " + w[2] + ")", x.copy(0, w[0], 1, w[1], w[2]), INDEX);
    }
    c.due("count(8)", x.count(8), 2);
    items(x, 1, BYTES, 0, 0, 0);
    c.due("copy(0, 5, 1, 3, 0)", x.copy(0, 5, 1, 3, 0), 1);
    c.due("copy(0, 2, 1, 0, 3)", x.copy(0, 2, 1, 0, 3), 1);
    items(x, 1, BYTES, 3, 4, 5);
    c.due("copy(0, 0, 1, 2, 1)", x.copy(0, 0, 1, 2, 1), 1);
    items(x, 1, BYTES, 3, 4, 1);
    // The same sheet, one span over the other, both ways.
    c.due("copy(0, 0, 0, 1, 4)", x.copy(0, 0, 0, 1, 4), 1);
    items(x, 0, BYTES, 1, 1, 2, 3, 4);
    c.due("copy(0, 2, 0, 0, 3)", x.copy(0, 2, 0, 0, 3), 1);
    items(x, 0, BYTES, 2, 3, 4, 3, 4);
  }

  private static void write() {
    c.on("29 write");
    ThriftLock x = withHead(4);
    x.basin(0, 1, 1);
    x.basin(1, 1, 1);
    x.turn();
    c.due("write(-1)", x.write(-1), BAD);
    c.due("write(4)", x.write(4), BAD);
    c.due("count(8)", x.count(8), 0);
    c.due("write(0)", x.write(0), NULL);
    c.due("count(8)", x.count(8), 1);
    for (int form = BYTES; form <= INTS; form++) {
      layAll(x, form, form, 9, 9, 9, 9, 9, 9);
      c.due("write(" + form + ")", x.write(form), 4);
      items(x, form, form, 1, 0, NONE, NONE, 9, 9);
    }
    x.sheet(3, BYTES, 3);
    c.due("write(3), fewer items than slices", x.write(3), 3);
    items(x, 3, BYTES, 1, 0, NONE);
    x.sheet(3, BYTES, 0);
    c.due("write(3), no items", x.write(3), 0);
    c.due("info(0, 4): write moved nothing", x.info(0, 4), 0);
    c.due("chamber(0)", x.chamber(0), 4);
    // Also once a longer row stood on the same sheet.
    ThriftLock y = withHead(60);
    y.sheet(0, INTS, 60);
    c.due("write(0)", y.write(0), 60);
    c.due("get(0, 2, 59)", y.get(0, INTS, 59), NONE);
    y.sheet(0, INTS, 2);
    c.due("write(0)", y.write(0), 2);
  }

  private static void count() {
    c.on("30 count");
    ThriftLock x = withHead(10);
    c.due("count(-1)", x.count(-1), BAD);
    c.due("count(9)", x.count(9), BAD);
    x.basin(5, 2, 1);
    x.basin(0, 3, 1);
    x.boat(0);
    x.boat(1);
    x.boat(1);
    x.serve();
    x.turn();
    x.lose(2);
    x.sheet(2, 0, -5);
    // 10 drawn, 5 kept and 5 lost, then 3 come back and 7 are drawn.
    counts(x, 2, 2, 3, 10, 2, 17, 5, 3, 5);
    x.lose(2);
    c.due("count(8), the latest", x.count(8), 1);
    x.head(99);
    c.due("count(8): what is bad is no finding", x.count(8), 1);
    x.wipe();
    counts(x, 2, 2, 0, 10, 2, 17, 5, 3, 1);
    ThriftLock y = new ThriftLock();
    y.sheet(0, BYTES, 1);
    y.sheet(1, SHORTS, 1);
    y.get(0, BYTES, 1);
    c.due("count(8)", y.count(8), 2);
    y.get(0, INTS, 0);
    c.due("count(8)", y.count(8), 3);
    y.copy(0, 0, 1, 0, 1);
    c.due("count(8)", y.count(8), 4);
  }

  private static void digest() {
    c.on("31 digest");
    // An object for each, as all that a digest is made of takes many of the calls that one may have.
    for (int acts = 0; acts <= 6; acts++) {
      digestIsAsTold(usedForDigest(acts));
    }
    ThriftLock x = usedForDigest(5);
    long before = x.digest();
    x.lose(0);
    x.sheet(1, 2, 9);
    c.due("digest(): findings and sheets are not in it", x.digest(), before);
    // A trial of a longer turn leaves nothing behind it.
    for (int head : new int[] {60, 20, 1}) {
      ThriftLock y = withHead(60);
      y.basin(20, 30, 1);
      turns(y, 2);
      y.digest();
      y.head(head);
      digestIsAsTold(y);
    }
  }

  /** The first so many of six kinds of acts. */
  private static ThriftLock usedForDigest(int acts) {
    ThriftLock x = withHead(45);
    if (acts > 0) {
      for (int k = 0; k < 9; k++) {
        x.boat(k % 3 == 0 ? 1 : 0);
      }
    }
    if (acts > 1) {
      x.basin(12, 9, 2);
      x.basin(20, 6, 1);
      x.basin(3, 30, 3);
      x.leak(1, 2);
    }
    if (acts > 2) {
      turns(x, 3);
      x.serve();
    }
    if (acts > 3) {
      x.out(1);
    }
    if (acts > 4) {
      x.rule(1);
      x.serve();
    }
    if (acts > 5) {
      x.wipe();
    }
    return x;
  }

  private static long h;

  private static void mix(int v) {
    h = 31 * h + v;
  }

  private static void digestIsAsTold(ThriftLock x) {
    h = 17;
    for (int what = 0; what <= 7; what++) mix(x.count(what));
    for (int i = 0; i < x.count(0); i++) {
      for (int what = 0; what <= 6; what++) mix(x.info(i, what));
      for (int what = 0; what <= 1; what++) mix(x.better(i, what));
    }
    for (int what = 0; what <= 2; what++) mix(x.chamber(what));
    for (int way = 0; way <= 1; way++) {
      mix(x.waits(way, NONE));
      mix(x.waits(way, 0));
      mix(x.waits(way, 3));
    }
    for (int what = 0; what <= 1; what++) mix(x.next(what));
    for (int i = 0; i < x.count(2); i++) {
      for (int what = 0; what <= 8; what++) mix(x.ledger(i, what));
    }
    for (int what = 0; what <= 4; what++) mix(x.total(what));
    for (int i = -1; i <= 40; i++) mix(x.step(i));
    mix(x.ahead(1));
    mix(x.ahead(2));
    mix(x.ahead(10));
    for (int what = 0; what <= 1; what++) mix(x.needless(what));
    c.due("digest()", x.digest(), h);
  }
}
