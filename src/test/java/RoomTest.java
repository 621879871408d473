import com.sun.management.ThreadMXBean;
import java.lang.management.ManagementFactory;

/** All calls of a run live in one room: rows are made with the object, calls make nothing. */
public final class RoomTest {
  /** Of 40 calls each: an object is used for at most 512. */
  private static final int ROUNDS = 12;
  private static final ThreadMXBean BEAN = (ThreadMXBean) ManagementFactory.getThreadMXBean();

  public static void main(String[] args) {
    // The first round loads classes, which is no part of a run.
    round(new SevenRings(), 0);
    used();
    long before = used();
    SevenRings x = new SevenRings();
    long made = used() - before;
    System.out.println(made + " bytes an object");
    Check.holds("an object takes " + made + " bytes", made < 40_000);
    before = used();
    long sum = 0;
    for (int i = 0; i < ROUNDS; i++) sum += round(x, i);
    long calls = used() - before;
    System.out.println(calls + " bytes for " + ROUNDS + " rounds of calls");
    Check.holds("calls take " + calls + " bytes (" + sum + ")", calls < 2_000);
    Check.end();
  }

  private static long used() {
    return BEAN.getThreadAllocatedBytes(Thread.currentThread().getId());
  }

  /** Every call once, on WAYS that are many. */
  private static long round(SevenRings x, int i) {
    long sum = x.set(1, 44) + x.set(3, 2) + x.set(4, 1) + x.set(0, i) + x.far(3) + x.ring(6, 0, 7) + x.ring(5, 1, 1 + i % 2);
    sum += x.type(0x313A3520L, 4) + x.rings() + x.ring(1, 0, -1) + x.type(0x313233L, 3) + x.sea(0, 0);
    sum += x.ways() + x.weight() + x.way(9, 1) + x.way(1, -1) + x.may(6, 4) + x.cell(0, 5, 0, 2) + x.depth(4, 4);
    sum += x.piece(44, 24, 1, 3, 0) + x.drift(3, 24, 1) + x.fits(0, 4) + x.drag(4, 4) + x.odds(44, 1) + x.where(4) + x.count(4);
    sum += x.moves(5) + x.most() + x.next() + x.should(44, 24, 1, 1) + x.image() + x.restore() + x.clear();
    sum += x.sheet(0, 1, 16) + x.sheet(1, 1, 16) + x.item(0, 1, 2, 3) + x.film(3, 0, 1, 2) + x.held(0, 1, 2);
    return sum + x.copy(0, 0, 1, 0, 16) + x.drop(1);
  }
}
