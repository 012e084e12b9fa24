/** Promises 16 (curl), 17, 18 (strokes), 19 to 21 (heaps, look), 22, 23 (dealt) and 24 (gone). */
public final class ReckonTest {
  public static void main(String[] args) {
    curl();
    strokes();
    strokesOfTies();
    heaps();
    look();
    heapsOfOthers();
    dealt();
    dealtTies();
    gone();
    Check.finish();
  }

  private static void curl() {
    GraterOrder x = Check.with(Check.ORDER);
    int[][][] want = {{{1, 4, 12}, {1, 3, 9}, {1, 3, 3}}, {{1, 5, 15}, {1, 4, 12}, {1, 3, 3}}, {{1, 0, 0}, {1, 0, 0}, {1, 1, 3}}};
    for (int g = 0; g < 3; g++) {
      for (int b = 0; b < 3; b++) {
        for (int side = 0; side < 3; side++) {
          Check.due("curl(" + g + ", " + b + ", " + side + ")", x.curl(g, b, side), want[g][b][side]);
        }
      }
    }
    x.grate(0, 2, 1);
    for (int side = 0; side < 3; side++) {
      Check.due("of a block that is gone", x.curl(0, 2, side), 0);
    }
    GraterOrder y = Check.with("brother a 9 0;grater g 1 1;holds a g;");
    y.grate(0, 0, 0);
    for (int side = 0; side < 3; side++) {
      Check.due("of a blunt one", y.curl(0, 0, side), 0);
    }
    Check.due("no such grater", x.curl(3, 0, 0), -1);
    Check.due("no such grater", x.curl(-1, 0, 0), -1);
    Check.due("no such brother", x.curl(0, 3, 0), -1);
    Check.due("no such brother", x.curl(0, -1, 0), -1);
    Check.due("no such side", x.curl(0, 0, 3), -1);
    Check.due("no such side", x.curl(0, 0, -1), -1);
    GraterOrder z = Check.with("brother a 40 0;grater g 9 60;holds a g;");
    z.grate(0, 0, 2);
    z.grate(0, 0, 1);
    Check.due("an end can't be sliced, but has a curl", z.curl(0, 0, 2), 4);
  }

  private static void row(GraterOrder x, int b, int n, int all, int fine, int coarse, int slice) {
    String what = "strokes(" + b + ", " + n + ")";
    Check.due(what, x.strokes(b, n), all);
    Check.due(what + " fine", x.strokesOf(0), fine);
    Check.due(what + " coarse", x.strokesOf(1), coarse);
    Check.due(what + " slice", x.strokesOf(2), slice);
  }

  private static void strokes() {
    GraterOrder x = Check.with(Check.ORDER);
    Check.due("ahead of any", x.strokesOf(0), -1);
    row(x, 0, 0, 0, 0, 0, 0);
    row(x, 0, 1, 1, 1, 0, 0);
    row(x, 0, 4, 1, 0, 1, 0);
    row(x, 0, 12, 1, 0, 0, 1);
    row(x, 0, 8, 2, 0, 2, 0);
    row(x, 0, 7, 4, 3, 1, 0);
    row(x, 0, 120, 10, 0, 0, 10);
    row(x, 0, 119, 9 + 2 + 3, 3, 2, 9);
    row(x, 2, 0, 0, 0, 0, 0);
    Check.due("no grater", x.strokes(2, 1), -1);
    Check.due("above 120", x.strokes(0, 121), -1);
    Check.due("below 0", x.strokes(0, -1), -1);
    Check.due("no such", x.strokes(3, 0), -1);
    Check.due("no such", x.strokes(-1, 0), -1);
    Check.due("the latest that was not none", x.strokesOf(0), 0);
    Check.due("strokesOf(3)", x.strokesOf(3), -1);
    Check.due("strokesOf(-1)", x.strokesOf(-1), -1);
    x.grate(0, 0, 2);
    x.grate(0, 0, 0);
    row(x, 0, 9, 1, 0, 0, 1);
    Check.due("as if the block was large", x.strokes(1, 120), 10);
  }

  private static void strokesOfTies() {
    GraterOrder x = Check.with("brother a 1 0;brother b 1 5;grater g 1 1;grater h 5 9;holds a g;holds b h;");
    row(x, 0, 1, 1, 1, 0, 0);
    row(x, 0, 2, 2, 2, 0, 0);
    row(x, 0, 3, 1, 0, 0, 1);
    row(x, 0, 5, 3, 2, 0, 1);
    row(x, 1, 120, 120, 120, 0, 0);
    Check.due("one stroke", x.grate(0, 0, 0), 0);
    Check.due("blunt", x.strokes(0, 1), -1);
    row(x, 0, 0, 0, 0, 0, 0);
  }

  private static void heapRow(String what, GraterOrder x, int... want) {
    for (int b = 0; b < want.length; b++) {
      Check.due(what + ": heapOf(" + b + ")", x.heapOf(b), want[b]);
    }
  }

  private static void heaps() {
    GraterOrder x = Check.with(Check.ORDER);
    Check.due("heapOf ahead of any", x.heapOf(0), -1);
    Check.due("look ahead of any", x.look(), -1);
    Check.due("an empty tape", x.heaps(), -1);
    Check.feed(x, "a");
    Check.due("one byte", x.heaps(), -1);
    Check.due("the tape is empty then", x.count(4), 0);
    Check.feed(x, "abc");
    Check.due("three bytes", x.heaps(), -1);
    Check.due("none that fits", Check.heaps(x, 5), 0);
    Check.due("ahead of any still", x.heapOf(0), -1);
    Check.due("nothing", Check.heaps(x, 0), 1);
    heapRow("nothing", x, 0, 0, 0, -1);
    Check.due("8 of 4 and 4", Check.heaps(x, 8), 3);
    heapRow("8", x, 0, 2, 0, -1);
    Check.due("24 at most", Check.heaps(x, 24), 1);
    heapRow("24", x, 3, 3, 0);
    Check.due("more than may be", Check.heaps(x, 28), 0);
    heapRow("the latest above 0", x, 3, 3, 0);
    Check.due("the higher byte first", Check.heaps(x, 256), 0);
    Check.due("65535", Check.heaps(x, 65535), 0);
    Check.due("heapOf(-1)", x.heapOf(-1), -1);
    Check.due("heapOf(7)", x.heapOf(7), -1);
    x.take(2, 2);
    Check.due("with cid's 1: 9", Check.heaps(x, 9), 3);
    heapRow("9", x, 0, 2, 1);
  }

  private static void look() {
    GraterOrder x = Check.with("brother a 9 0;brother b 9 0;brother c 9 0;grater p 2 60;grater q 1 60;grater r 1 60;"
        + "holds a p;holds b q;holds c r;");
    // 2i + j + k = 4: i 0: (1,3)(2,2)(3,1); i 1: (0,2)(1,1)(2,0); i 2: (0,0)
    Check.due("4", Check.heaps(x, 4), 7);
    heapRow("4", x, 0, 1, 3);
    // of a: 3, 3, 1; of b: 0: (1,0,2)(2,0,0), 1: (0,1,3)(1,1,1), 2: (0,2,2)(1,2,0), 3: (0,3,1)
    Check.due("b tells the most", x.look(), 1);
    Check.due("3", Check.heaps(x, 3), 6);
    // 2i + j + k = 3: i 0: 4 rows, i 1: 2; of b: j 0: (0,3)(1,1) 2, j 1: (0,2)(1,0) 2, j 2: 1, j 3: 1
    Check.due("b", x.look(), 1);
    Check.due("18 of 12", Check.heaps(x, 18), 0);
    Check.due("stays", x.look(), 1);
    Check.due("the first of like ones", Check.heaps(x, 12), 1);
    Check.due("a", x.look(), 0);
    x.put(0);
    Check.due("without a", Check.heaps(x, 2), 3);
    Check.due("he tells nothing", x.look(), 1);
    x.put(1);
    x.put(2);
    Check.due("nobody", Check.heaps(x, 0), 1);
    Check.due("the first", x.look(), 0);
    Check.due("nobody for 1", Check.heaps(x, 1), 0);
  }

  private static void heapsOfOthers() {
    GraterOrder x = Check.with("brother a 1 5;brother b 1 0;grater p 5 60;grater q 3 60;holds a p;holds b q;");
    Check.due("strokes by which nothing falls count", Check.heaps(x, 3), 4);
    heapRow("3", x, 0, 1);
    Check.due("a tells", x.look(), 0);
    Check.order(x, "");
    Check.due("told last stays", x.heapOf(1), 1);
    Check.due("no brothers", Check.heaps(x, 0), 1);
    Check.due("none", x.look(), -1);
    Check.due("none", x.heapOf(0), -1);
    GraterOrder y = Check.with(Check.crowd(7, 6) + "holds a p;holds b q;holds c r;holds d s;holds e t;holds f u;");
    Check.due("six of five", Check.heaps(y, 45), 580);
    heapRow("45", y, 0, 0, 0, 3, 3, 3, 0);
  }

  private static void dealtRow(String what, GraterOrder x, int sum, int... want) {
    Check.due(what, x.dealt(), sum);
    for (int b = 0; b < want.length; b++) {
      Check.due(what + ": dealtOf(" + b + ")", x.dealtOf(b), want[b]);
    }
  }

  private static void dealt() {
    GraterOrder x = Check.with(Check.ORDER);
    Check.due("ahead of any", x.dealtOf(0), -1);
    // even 4; coarse curls: rasp 4, 3, 3; mill 5, 4, 3; zest 0, 0, 1
    dealtRow("as they are", x, 0 + 0 + 3, 0, 1, 2, -1);
    Check.due("dealtOf(-1)", x.dealtOf(-1), -1);
    Check.due("dealtOf(7)", x.dealtOf(7), -1);
    x.put(0);
    x.put(1);
    dealtRow("whoever has them", x, 3, 0, 1, 2);
    x.take(0, 0);
    x.grate(0, 2, 1);
    Check.due("as it was told", x.dealtOf(2), 2);
    dealtRow("cid's is gone", x, 4, 0, 1, 2);
    Check.due("nobody's graters changed", x.brother(1, 3), -1);
  }

  private static void dealtTies() {
    GraterOrder x = Check.with("brother a 9 0;brother b 9 0;grater p 4 9;grater q 4 9;grater r 9 9;even 4;");
    dealtRow("the first of like ones", x, 0, 0, 1);
    x = Check.with("brother a 9 0;brother b 9 0;grater p 9 9;even 4;");
    dealtRow("none is better", x, 8, -1, -1);
    x = Check.with("brother a 9 0;brother b 9 0;grater p 8 9;even 4;");
    dealtRow("none behind all", x, 8, 0, -1);
    x = Check.with("brother a 9 0;brother b 9 0;grater p 9 9;grater q 9 9;even 0;");
    dealtRow("even 0", x, 0, -1, -1);
    x = Check.with("brother a 9 3;brother b 9 0;grater p 4 9;even 4;");
    dealtRow("to the second", x, 4, -1, 0);
    x = Check.with("brother a 9 0;brother b 2 0;grater p 2 9;grater q 9 9;even 9;");
    dealtRow("bounded by what is left", x, 7, 1, 0);
    x = Check.with("grater p 2 9;");
    dealtRow("no brothers", x, 0, -1);
    x = Check.with("brother a 9 0;even 20;");
    dealtRow("no graters", x, 20, -1);
  }

  private static void gone() {
    GraterOrder x = Check.with(Check.ORDER);
    Check.due("40 by 4", x.gone(0), 10);
    Check.due("12 by 4", x.gone(1), 3);
    Check.due("3 by 4", x.gone(2), 1);
    x.grate(0, 0, 0);
    Check.due("39 by 4", x.gone(0), 10);
    x.grate(0, 2, 1);
    Check.due("it is", x.gone(2), 0);
    Check.due("no such", x.gone(3), -1);
    Check.due("no such", x.gone(-1), -1);
    GraterOrder y = Check.with("brother a 1 0;brother b 240 0;grater g 1 1;holds a g;even 0;");
    Check.due("never", y.gone(1), -1);
    y.grate(0, 0, 0);
    Check.due("gone, though nothing falls", y.gone(0), 0);
    GraterOrder z = Check.with("brother b 240 0;even 1;");
    Check.due("240 by 1", z.gone(0), 240);
  }
}
