import com.sun.management.ThreadMXBean;
import java.lang.management.ManagementFactory;

/** All calls of a run live in one room: an object is small, and calls make nothing. */
public final class RoomTest {
  private static final int OBJECTS = 200, ROUNDS = 40;
  private static final int MOST_BYTES_AN_OBJECT = 8192, MOST_BYTES_OF_ALL_CALLS = 65536;

  public static void main(String[] args) {
    ThreadMXBean bean = (ThreadMXBean) ManagementFactory.getThreadMXBean();
    Check c = new Check();
    c.on("room");
    use(new ThriftLock());
    bean.getCurrentThreadAllocatedBytes();

    ThriftLock[] made = new ThriftLock[OBJECTS];
    long before = bean.getCurrentThreadAllocatedBytes();
    for (int k = 0; k < OBJECTS; k++) {
      made[k] = new ThriftLock();
    }
    long each = (bean.getCurrentThreadAllocatedBytes() - before) / OBJECTS;
    c.due("an object is small (" + each + " bytes)", each <= MOST_BYTES_AN_OBJECT ? 1 : 0, 1);

    before = bean.getCurrentThreadAllocatedBytes();
    for (int k = 0; k < ROUNDS; k++) {
      use(made[k]);
    }
    long all = bean.getCurrentThreadAllocatedBytes() - before;
    c.due("calls make nothing (" + all + " bytes)", all <= MOST_BYTES_OF_ALL_CALLS ? 1 : 0, 1);
    c.finish();
  }

  private static void use(ThriftLock x) {
    x.head(60);
    for (int s = 0; s < 4; s++) {
      x.sheet(s, s % 3, 60);
      x.lay(s, s % 3, 0, 40);
      x.lay(s, s % 3, 1, 9);
      x.lay(s, s % 3, 2, 2);
      x.read(s);
      x.write(s);
      x.get(s, s % 3, 59);
    }
    x.copy(0, 0, 3, 0, 60);
    x.lose(1);
    for (int k = 0; k < 10; k++) {
      x.basin(10 * (k % 6), 30, 1 + k % 3);
      x.leak(k % 4, k % 3);
      x.out(k % 4);
      x.boat(k % 2);
      x.boat(0);
      x.rule(k % 2);
      x.next(0);
      x.turn();
      x.serve();
      x.leave(k);
      x.waits(k % 2, 0);
      x.ledger(k, 5);
      x.total(k % 5);
      x.info(k % 4, 5);
      x.chamber(1);
      x.count(k % 9);
      x.step(k);
      x.ahead(40);
      x.better(k % 4, 0);
      x.needless(1);
      x.back();
      x.digest();
    }
    x.wipe();
  }
}
