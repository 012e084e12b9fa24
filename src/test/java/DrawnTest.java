/** Promises 30 (drawn) and 31 (odds). */
public final class DrawnTest {
  public static void main(String[] args) {
    oneDay();
    drawnByHand();
    draught();
    bounds();
    odds();
    Check.finish();
  }

  private static final class Lots {
    int x;
    Lots(int seed) { x = seed; }
    int draw(int n) {
      x = x * 1103515245 + 12345;
      return (x >>> 8) % n;
    }
  }

  private static void oneDay() {
    // seed 1: 1103527590 >>> 8 = 4310654, % 4 = 2: a slice of his own
    GraterOrder x = Check.with("brother a 40 0;grater g 2 60;holds a g;");
    Check.due("a day", x.drawn(1, 1), 1);
    Check.due("sliced", x.brother(0, 0), 34);
    Check.due("swept", x.now(2), 6);
    Check.due("heap", x.now(1), 0);
    Check.due("day", x.now(0), 1);
    Check.due("oddness", x.brother(0, 6), 3);
  }

  /** The same days by the calls of the face. */
  private static void drawnByHand() {
    for (int seed = -40; seed < 40; seed++) {
      GraterOrder x = Check.with(Check.ORDER + "brother dan 77 1;");
      GraterOrder y = Check.with(Check.ORDER + "brother dan 77 1;");
      Check.due("drawn", x.drawn(12, seed * 7654321), 12);
      Lots lots = new Lots(seed * 7654321);
      for (int day = 0; day < 12; day++) {
        for (int b = 0; b < 4; b++) {
          int lot = lots.draw(4);
          y.grate(b, lot < 3 ? b : lots.draw(4), lot % 3);
        }
        lots.draw(12);
        y.days(1);
      }
      for (int b = 0; b < 4; b++) {
        for (int what = 0; what < 8; what++) {
          Check.due("brother(" + b + ", " + what + ") by " + seed, x.brother(b, what), y.brother(b, what));
        }
      }
      for (int g = 0; g < 3; g++) {
        Check.due("strokes of " + g, x.grater(g, 2), y.grater(g, 2));
      }
    }
  }

  private static void draught() {
    String order = "brother a 40 0;grater g 3 60;holds a g;draught ";
    // seed 1: a slice of 9 by the first draw; the second is 377401575 % 12... by Lots
    Lots lots = new Lots(1);
    lots.draw(4);
    int second = lots.draw(12);
    for (int draught = 0; draught <= 12; draught++) {
      GraterOrder x = Check.with(order + draught + ";");
      x.drawn(1, 1);
      Check.due("swept by draught " + draught, x.now(2), second < draught ? 4 : 9);
      Check.due("what he grated stays", x.brother(0, 6), 6);
    }
  }

  private static void bounds() {
    GraterOrder x = new GraterOrder();
    Check.due("no brothers", x.drawn(1, 1), -1);
    x = Check.with(Check.ORDER);
    Check.due("0", x.drawn(0, 1), -1);
    Check.due("-1", x.drawn(-1, 1), -1);
    Check.due("61", x.drawn(61, 1), -1);
    Check.due("nothing went by", x.now(0), 0);
    for (int i = 0; i < 6; i++) {
      Check.due("60", x.drawn(60, i), 60);
    }
    Check.due("40 are left", x.drawn(60, 7), 40);
    Check.due("none is left", x.drawn(1, 7), 0);
    Check.due("day 400", x.now(0), 400);
    Check.due("undo", x.undo(), 6);
    Check.due("day 360", x.now(0), 360);
  }

  private static void odds() {
    GraterOrder x = Check.with(Check.ORDER);
    Check.due("no such", x.odds(3, 1, 1), -1);
    Check.due("no such", x.odds(-1, 1, 1), -1);
    Check.due("0 seeds", x.odds(0, 0, 1), -1);
    Check.due("31 seeds", x.odds(0, 31, 1), -1);
    for (int n : new int[] {1, 2, 30}) {
      for (int seed : new int[] {1, 99, Integer.MAX_VALUE - 3}) {
        for (int b = 0; b < 3; b++) {
          int times = 0;
          for (int i = 0; i < n; i++) {
            GraterOrder y = Check.with(Check.ORDER);
            y.drawn(20, seed + i);
            times += y.brother(b, 0) == 0 ? 1 : 0;
          }
          Check.due("odds(" + b + ", " + n + ", " + seed + ")", x.odds(b, n, seed), times);
        }
      }
    }
    Check.due("all stays", x.now(0), 0);
    Check.due("all stays", x.now(6), 55);
    Check.due("nothing to undo", x.undo(), -1);
    x.grate(0, 2, 1);
    Check.due("gone already", x.odds(2, 30, 5), 30);
    for (int i = 0; i < 7; i++) {
      x.days(60);
    }
    GraterOrder z = Check.with("brother a 1 0;grater g 9 9;holds a g;");
    Check.due("20 days are enough", z.odds(0, 30, 1), 30);
    for (int i = 0; i < 7; i++) {
      z.days(60);
    }
    Check.due("no days are left", z.odds(0, 30, 1), 0);
  }
}
