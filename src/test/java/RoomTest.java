import java.lang.management.ManagementFactory;

/** What a run makes stays small: an object and its image, and nothing by the calls after that. */
public final class RoomTest {
  public static void main(String[] args) {
    Due due = new Due("RoomTest");
    com.sun.management.ThreadMXBean thread =
        (com.sun.management.ThreadMXBean) ManagementFactory.getThreadMXBean();
    long self = Thread.currentThread().getId();
    calls(new LoanPence());
    long start = thread.getThreadAllocatedBytes(self);
    LoanPence x = new LoanPence();
    long made = thread.getThreadAllocatedBytes(self) - start;
    due.holds("an object takes " + made + " bytes", made < 60000);
    x.image();
    start = thread.getThreadAllocatedBytes(self);
    calls(x);
    long more = thread.getThreadAllocatedBytes(self) - start;
    due.holds("calls take " + more + " bytes", more < 4000);
    due.end();
  }

  /** Each call of the face, most of them fitting, in a land that is as large as can be. */
  private static void calls(LoanPence x) {
    for (int i = 0; i < 12; i++) {
      x.library(i % 4, 10 + i);
    }
    x.draw(4095);
    for (int i = 0; i < 20; i++) {
      x.person(i / 2, i % 4, -50);
    }
    for (int i = 0; i < 30; i++) {
      x.edition(i % 6, i / 3, 0);
      x.share(i, 10 * (i % 20), 50);
      x.share(i, 10 * (i * 7 % 20) + 1, 50);
    }
    for (int i = 0; i < 19; i++) {
      x.heir(i, i + 1, 50);
      x.heir(i, (i + 2) % 20, 50);
      x.died(i, -1 - i % 2);
    }
    rules(x);
    for (int i = 0; i < 60; i++) {
      x.lent(i % 12, i % 30, 1 + i);
    }
    for (int i = 0; i < 10; i++) {
      x.all(i % 4, 10000 + i);
      x.fund(5000);
      x.close();
      x.put(i, i, i, i);
    }
    asks(x);
  }

  private static void rules(LoanPence x) {
    x.feed(0x6c617465, 4);
    x.feed('9', 1);
    x.rule(0, 100);
    x.feed(0x77686f20, 4);
    x.feed(0x726f6c65, 4);
    x.feed(0x3d302020, 4);
    x.rule(0, 100);
    x.feed('x', 1);
    x.rule(0, 100);
    x.wipe();
  }

  private static void asks(LoanPence x) {
    for (int i = 0; i < 5; i++) {
      x.known(i, 100 * i + i, i);
      x.look(i, 3);
      x.year(i, i);
      x.editionOf(i, 4);
      x.personOf(i, 5);
      x.shareOf(i, i);
      x.same(i % 2, i, i + 1);
      x.join(i % 2, i, i + 1);
      x.says(i % 6, i, i);
      x.why(i % 6, i, i);
      x.estimate(i, i, i);
      x.book(i, i);
      x.points(i, i);
      x.paid(i, i, i % 4);
      x.gain(i, i, 0);
      x.bestDraw(i);
      x.moved(i, 100 * i + i);
      x.movedMany(i);
      x.span(i, i, 1);
      x.count(i);
      x.lay(i);
      x.set(i - 1, i);
      x.row(i - 1);
      x.copy(0, 1, i - 1);
      x.judge();
      x.tear();
      x.image();
      x.back();
      x.status(-i);
    }
  }
}
