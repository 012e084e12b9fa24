/** Promises 6 (brother), 7 (grater), 8 (now) and 14 (days). */
public final class StateTest {
  public static void main(String[] args) {
    brothers();
    graters();
    now();
    days();
    oddness();
    Check.finish();
  }

  private static void row(String what, GraterOrder x, int b, int... want) {
    for (int i = 0; i < want.length; i++) {
      Check.due(what + ": brother(" + b + ", " + i + ")", x.brother(b, i), want[i]);
    }
  }

  private static void brothers() {
    GraterOrder x = Check.with(Check.ORDER);
    row("new", x, 0, 40, 40, 1, 0, 0, 0, 0, 0);
    row("new", x, 1, 12, 12, 2, 1, 0, 0, 0, 0);
    row("new", x, 2, 3, 3, 0, -1, 0, 0, 0, 0);
    x.grate(0, 0, 1);
    x.grate(1, 0, 0);
    x.grate(0, 1, 1);
    x.grate(0, 1, 2);
    row("grated", x, 0, 35, 40, 1, 0, 16, 1, 0, 1);
    row("grated", x, 1, 0, 12, 2, 1, 1, 0, 0, 12);
    x.days(1);
    row("a day on", x, 0, 35, 40, 1, 0, 0, 1, 12, 1);
    row("a day on", x, 1, 0, 12, 2, 1, 0, 0, 3, 12);
    row("a day on", x, 2, 3, 3, 0, -1, 0, 0, 4, 0);
    Check.throwsNoSuch(x, 3, 0);
    Check.throwsNoSuch(x, -1, 0);
    Check.throwsNoSuch(x, 0, 8);
    Check.throwsNoSuch(x, 0, -1);
    Check.throwsNoSuch(x, 7, 0);
    Check.throwsNoSuch(x, Integer.MAX_VALUE, Integer.MIN_VALUE);
    row("thrown, nothing changed", x, 0, 35, 40, 1, 0, 0, 1, 12, 1);
  }

  private static void graters() {
    GraterOrder x = Check.with(Check.ORDER);
    int[][] want = {{5, 3, 0, 5, 0}, {6, 10, 0, 6, 1}, {1, 1, 0, 1, -1}};
    for (int g = 0; g < 3; g++) {
      for (int what = 0; what < 5; what++) {
        Check.due("grater(" + g + ", " + what + ")", x.grater(g, what), want[g][what]);
      }
    }
    Check.due("grater(0, 5)", x.grater(0, 5), -1);
    Check.due("grater(0, -1)", x.grater(0, -1), -1);
    Check.due("grater(3, 0)", x.grater(3, 0), -1);
    Check.due("grater(-1, 0)", x.grater(-1, 0), -1);
    int[] bites = {5, 5, 5, 4, 4, 4, 3, 3, 3, 2, 2, 2, 1, 1, 1, 0};
    for (int strokes = 0; strokes < bites.length; strokes++) {
      Check.due("strokes", x.grater(0, 2), strokes);
      Check.due("bites after " + strokes, x.grater(0, 3), bites[strokes]);
      Check.due("grate fine", x.grate(0, 0, 0), strokes < 15 ? 0 : 4);
    }
  }

  private static void now() {
    GraterOrder x = Check.with(Check.ORDER);
    int[] fresh = {0, 0, 0, 2, 0, 3, 55, 0};
    for (int what = 0; what < 8; what++) {
      Check.due("now(" + what + ")", x.now(what), fresh[what]);
    }
    x.grate(0, 2, 1);
    x.grate(0, 0, 1);
    x.file(0);
    x.put(0);
    x.take(2, 2);
    int[] then = {0, 7, 0, 1, 4, 6, 48, 0};
    for (int what = 0; what < 8; what++) {
      Check.due("now(" + what + ") then", x.now(what), then[what]);
    }
    x.days(1);
    int[] next = {1, 0, 7, 1, 4, 6, 48, 3 + 4 + 4};
    for (int what = 0; what < 8; what++) {
      Check.due("now(" + what + ") a day on", x.now(what), next[what]);
    }
    x.days(1);
    Check.due("an empty heap swept", x.now(2), 0);
    Check.due("now(8)", x.now(8), -1);
    Check.due("now(-1)", x.now(-1), -1);
  }

  private static void days() {
    GraterOrder x = Check.with(Check.ORDER);
    Check.due("days(0)", x.days(0), -1);
    Check.due("days(-5)", x.days(-5), -1);
    Check.due("days(61)", x.days(61), -1);
    Check.due("none of these", x.now(0), 0);
    Check.due("days(1)", x.days(1), 1);
    for (int i = 0; i < 6; i++) {
      Check.due("days(60)", x.days(60), 60);
    }
    Check.due("day 361", x.now(0), 361);
    Check.due("days(60) with 39 left", x.days(60), 39);
    Check.due("day 400", x.now(0), 400);
    Check.due("days(1) when all are over", x.days(1), 0);
    Check.due("still 400", x.now(0), 400);
    Check.due("grating goes on", x.grate(0, 0, 0), 0);
    Check.due("undo that", x.undo(), 7);
    Check.due("undo the 39", x.undo(), 6);
    Check.due("day 361 again", x.now(0), 361);
  }

  private static void oddness() {
    GraterOrder x = Check.with("brother a 240 0;grater g 9 60;holds a g;even 20;");
    for (int i = 0; i < 9; i++) {
      x.grate(0, 0, 2);
    }
    Check.due("all sliced", x.brother(0, 4), 240);
    Check.due("gone", x.brother(0, 0), 0);
    x.days(1);
    Check.due("off above", x.brother(0, 6), 220);
    x.days(1);
    Check.due("off below", x.brother(0, 6), 240);
    for (int i = 0; i < 7; i++) {
      x.days(60);
    }
    Check.due("400 days", x.brother(0, 6), 220 + 399 * 20);

    GraterOrder y = Check.with("brother a 240 0;brother b 240 0;grater g 9 60;grater h 9 60;holds a g;even 20;");
    for (int d = 0; d < 400; d++) {
      y.days(1);
    }
    Check.due("8000 at most by even alone", y.now(7), 16000);
    oddnessAtMost();
  }

  /** All blocks on one day and 399 idle ones: no run of calls comes nearer to 9999. */
  private static void oddnessAtMost() {
    StringBuilder text = new StringBuilder("even 20;files 20;");
    for (int b = 0; b < 7; b++) {
      text.append("brother ").append((char) ('a' + b)).append(" 240 0;");
    }
    text.append("grater z 9 60;holds a z;");
    GraterOrder x = Check.with(text.toString());
    for (int b = 0; b < 7; b++) {
      for (int i = 0; i < 9; i++) {
        x.grate(0, b, 2);
      }
      x.file(0);
    }
    Check.due("all blocks on one day", x.brother(0, 4), 1680);
    for (int i = 0; i < 7; i++) {
      x.days(60);
    }
    Check.due("oddness of 1660 and 399 days of 20", x.brother(0, 6), 1660 + 399 * 20);
    Check.due("9640 is below the most", x.brother(0, 6), 9640);
  }
}
