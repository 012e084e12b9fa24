/** Promises 1 (a new object), 2 (feed), 3 (end) and 38 (count). */
public final class TapeTest {
  public static void main(String[] args) {
    newObject();
    feed();
    end();
    count();
    Check.finish();
  }

  private static void newObject() {
    GraterOrder x = new GraterOrder();
    Check.due("new: brothers", x.count(0), 0);
    Check.due("new: graters", x.count(1), 0);
    Check.due("new: even", x.count(2), 3);
    Check.due("new: draught", x.count(3), 0);
    Check.due("new: tape", x.count(4), 0);
    for (int what = 0; what < 8; what++) {
      Check.due("new: now " + what, x.now(what), what == 3 ? 1 : 0);
    }
    Check.due("new: fault", x.fault(), 0);
    Check.due("new: undo", x.undo(), -1);
    Check.due("new: said", x.said(-1), -1);
    Check.due("new: order of nothing", x.order(), 0);
  }

  private static void feed() {
    GraterOrder x = new GraterOrder();
    for (int i = 1; i <= 47; i++) {
      Check.due("feed " + i, x.feed(i, i, i, i, i), 20 * i);
    }
    Check.due("feed beyond 940", x.feed(1, 1, 1, 1, 1), -1);
    Check.due("nothing came", x.count(4), 940);
    x.end(921);
    Check.due("feed to 941", x.feed(1, 1, 1, 1, 1), -1);
    Check.due("still 921", x.count(4), 921);
    x.end(920);
    Check.due("feed to 940", x.feed(1, 1, 1, 1, 1), 940);

    GraterOrder y = new GraterOrder();
    y.feed(0x6576656e, 0x20313b66, 0x696c6573, 0x20323b20, 0x20202020);
    Check.due("the highest byte first", y.order(), 2);
    Check.due("even by it", y.count(2), 1);
    Check.due("files by it", y.now(3), 2);
    y.feed(-1, -1, -1, -1, -1);
    Check.due("bytes of 255", y.order(), -1);
    Check.due("are no token", y.fault(), 1);
  }

  private static void end() {
    GraterOrder x = new GraterOrder();
    Check.due("end(0) of nothing", x.end(0), true);
    Check.due("end(1) of nothing", x.end(1), false);
    x.feed(0x6576656e, 0x20313b78, 0, 0, 0);
    Check.due("end(-1)", x.end(-1), false);
    Check.due("end(21)", x.end(21), false);
    Check.due("both stay", x.count(4), 20);
    Check.due("end(20)", x.end(20), true);
    Check.due("end(7)", x.end(7), true);
    Check.due("7 bytes", x.count(4), 7);
    Check.due("end(8) then", x.end(8), false);
    Check.due("the first ones stay", x.order(), 1);
    x.feed(1, 2, 3, 4, 5);
    Check.due("end(least int)", x.end(Integer.MIN_VALUE), false);
    Check.due("end(greatest int)", x.end(Integer.MAX_VALUE), false);
  }

  private static void count() {
    GraterOrder x = Check.with(Check.ORDER);
    Check.due("count brothers", x.count(0), 3);
    Check.due("count graters", x.count(1), 3);
    Check.due("count even", x.count(2), 4);
    Check.due("count draught", x.count(3), 6);
    Check.due("count tape", x.count(4), 0);
    x.feed(0, 0, 0, 0, 0);
    Check.due("count tape then", x.count(4), 20);
    Check.due("count(5)", x.count(5), -1);
    Check.due("count(-1)", x.count(-1), -1);
  }
}
