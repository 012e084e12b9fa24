import java.lang.management.ManagementFactory;
import java.util.NoSuchElementException;
import java.util.Random;

/** Any arguments in any state: nothing but what the document names is thrown, and hardly anything is made. */
public final class RoomTest {
  private static final int[] EDGES = {Integer.MIN_VALUE, -1000, -2, -1, 0, 1, 2, 3, 5, 6, 7, 8, 19, 20, 21, 30, 31, 60, 61,
      119, 120, 121, 400, 939, 940, 941, Integer.MAX_VALUE};

  public static void main(String[] args) {
    wildCalls();
    room();
    Check.finish();
  }

  private static int call(GraterOrder x, Random r) {
    int a = EDGES[r.nextInt(EDGES.length)];
    int b = EDGES[r.nextInt(EDGES.length)];
    int c = EDGES[r.nextInt(EDGES.length)];
    switch (r.nextInt(37)) {
      case 0: return x.feed(r.nextInt(), r.nextInt(), r.nextInt(), r.nextInt(), r.nextInt());
      case 1: return x.end(a) ? 1 : 0;
      case 2: return x.order();
      case 3: return x.fault();
      case 4: return x.brother(a, b);
      case 5: return x.grater(a, b);
      case 6: return x.now(a);
      case 7: return x.grate(a, b, c);
      case 8: return x.take(a, b);
      case 9: return x.put(a);
      case 10: return x.swap(a, b);
      case 11: return x.file(a);
      case 12: return x.days(a);
      case 13: return x.undo();
      case 14: return x.curl(a, b, c);
      case 15: return x.strokes(a, b);
      case 16: return x.strokesOf(a);
      case 17: return x.heaps();
      case 18: return x.heapOf(a);
      case 19: return x.look();
      case 20: return x.dealt();
      case 21: return x.dealtOf(a);
      case 22: return x.gone(a);
      case 23: return x.time(a, b);
      case 24: return x.from(a, b);
      case 25: return x.thief(a);
      case 26: return x.tag(a);
      case 27: return x.byteAt(a);
      case 28: return x.drawn(a, b);
      case 29: return x.odds(a, b, c);
      case 30: return x.book(a);
      case 31: return x.told(a);
      case 32: return x.sentence();
      case 33: return x.said(a);
      case 34: return x.image(a) ? 1 : 0;
      case 35: return x.restore(a) ? 1 : 0;
      default: return x.count(a);
    }
  }

  private static void wildCalls() {
    String full = Check.crowd(7, 6) + "holds a p;holds b q;holds c r;holds d s;holds e t;holds f u;draught 6;";
    for (int seed = 0; seed < 300; seed++) {
      Random r = new Random(seed);
      GraterOrder x = seed % 3 == 0 ? new GraterOrder() : Check.with(seed % 3 == 1 ? Check.ORDER : full);
      x.image(seed & 1);
      for (int i = 0; i < 280; i++) {
        try {
          call(x, r);
        } catch (NoSuchElementException e) {
          continue;
        } catch (RuntimeException e) {
          Check.due("thrown by seed " + seed + ": " + e, 1, 0);
        }
        if (r.nextInt(60) == 0) {
          x.end(0);
          Check.order(x, full);
        }
      }
      Check.due("went to the end", 0, 0);
    }
  }

  private static long made() {
    return ((com.sun.management.ThreadMXBean) ManagementFactory.getThreadMXBean()).getThreadAllocatedBytes(
        Thread.currentThread().getId());
  }

  private static void room() {
    String full = Check.crowd(7, 6) + "holds a p;holds b q;holds c r;holds d s;holds e t;holds f u;draught 6;";
    GraterOrder x = Check.with(full);
    String book = "a grates b slice;".repeat(20);
    String sentence = "not (gone or armed and left < 5) and hurt = 0";
    dearCalls(x, full, book, sentence);
    long before = made();
    GraterOrder y = new GraterOrder();
    long one = made() - before;
    Check.due("a new object takes at most 60,000 bytes, took " + one, one <= 60000, true);
    before = made();
    dearCalls(y, full, book, sentence);
    long calls = made() - before;
    Check.due("dear calls make next to nothing, made " + calls, calls <= 2000, true);
  }

  private static void dearCalls(GraterOrder x, String full, String book, String sentence) {
    Check.order(x, full);
    Check.book(x, book, 1);
    Check.sentence(x, sentence);
    x.said(-1);
    Check.feed(x, "\0\36");
    x.heaps();
    x.dealt();
    x.strokes(0, 120);
    x.odds(0, 30, 1);
    x.drawn(60, 1);
    x.undo();
    x.tag(0);
    x.image(0);
    x.image(1);
    x.restore(0);
  }
}
