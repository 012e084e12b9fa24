/**
 * Each sentence about what is reckoned (the document's part 3, promises 16 to 31) that names a
 * boundary, an order of like ones or a refusal has a test of its own here.
 */
public final class ReckonBoundsTest {
  private static final int[] NO_BROTHER = {-1, 3, 4, 6, 7, 8, 100, Integer.MIN_VALUE, Integer.MAX_VALUE};
  private static final int[] NO_SIDE = {-1, 3, 4, Integer.MIN_VALUE, Integer.MAX_VALUE};

  public static void main(String[] args) {
    curlNone();
    biteNow();
    strokesFewest();
    strokesLarge();
    strokesLike();
    strokesNone();
    strokesOf();
    heapBytes();
    heapStrokes();
    heapOthers();
    heapLarge();
    heapFirst();
    look();
    lookLike();
    heapsNone();
    heapOf();
    lookNone();
    dealtEach();
    dealtWhoever();
    dealtSum();
    dealtFirst();
    dealtAnswers();
    dealtNone();
    gone();
    goneNone();
    fractions();
    timeThrows();
    fromNone();
    thief();
    thiefNone();
    tag();
    tagNone();
    byteAt();
    wrapping();
    drawnSides();
    drawnIfHeCan();
    drawnDraught();
    drawnNone();
    oddsSeeds();
    oddsDays();
    oddsNone();
    newOrder();
    throwsNothing();
    Check.finish();
  }

  private static GraterOrder one(int block, int hard, int teeth, int edge) {
    return Check.with("brother a " + block + " " + hard + ";grater g " + teeth + " " + edge + ";holds a g;");
  }

  private static void curlNone() {
    Check.says("The CURL of a GRATER on the block of a BROTHER on a SIDE as it is now; NONE: no such ones");
    GraterOrder x = Check.lived();
    String before = Check.all(x);
    for (int bad : NO_BROTHER) {
      Check.due("grater " + bad, x.curl(bad, 0, 0), -1);
      Check.due("brother " + bad, x.curl(0, bad, 0), -1);
    }
    for (int bad : NO_SIDE) {
      Check.due("side " + bad, x.curl(0, 0, bad), -1);
    }
    Check.text("nothing changes", Check.all(x), before);
    Check.due("of an empty order", new GraterOrder().curl(0, 0, 0), -1);
    GraterOrder y = one(30, 0, 9, 2);
    Check.due("fresh", y.curl(0, 0, 2), 27);
    y.grate(0, 0, 2);
    Check.due("worn, and 3 left", y.curl(0, 0, 1), 3);
    Check.due("of an end, too", y.curl(0, 0, 2), 3);
    GraterOrder z = Check.with("brother a 50 0;grater g 9 1;grater h 7 1;holds a g;");
    z.grate(0, 0, 0);
    Check.due("a grater that he has", z.curl(0, 0, 1), 8);
    Check.due("one that nobody has", z.curl(1, 0, 1), 7);
  }

  private static void biteNow() {
    Check.says("All by GRATERS as they BITE now");
    GraterOrder x = one(240, 0, 4, 2);
    Check.due("strokes for 12", x.strokes(0, 12), 1);
    Check.due("heaps of 8", Check.heaps(x, 8), 1);
    Check.due("dealt", x.dealt(), 1);
    x.grate(0, 0, 2);
    Check.due("strokes for 12, by 3", x.strokes(0, 12), 2);
    Check.due("strokes for 9, by 3", x.strokes(0, 9), 1);
    Check.due("heaps of 8, by 3", Check.heaps(x, 8), 0);
    Check.due("heaps of 9, by 3", Check.heaps(x, 9), 1);
    Check.due("dealt, by 3", x.dealt(), 0);
    Check.due("120 by slices of 9", x.strokes(0, 120), 13 + 1);
  }

  /** The fewest of all rows, tried one by one: of like ones the fewest slices, then coarse ones. */
  private static int[] fewest(int fine, int coarse, int n) {
    int[] best = null;
    for (int s = 0; s <= n; s++) {
      for (int c = 0; c + s <= n; c++) {
        int rest = n - 3 * coarse * s - coarse * c;
        if (rest < 0 || fine == 0 && rest > 0) {
          continue;
        }
        int all = s + c + rest;
        if (best == null || all < best[0]) {
          best = new int[] {all, rest, c, s};
        }
      }
    }
    return best;
  }

  private static void strokesFewest() {
    Check.says("the fewest strokes on whatever SIDES by which just n fall");
    for (int teeth = 1; teeth <= 9; teeth++) {
      for (int hard = 0; hard <= 5; hard++) {
        for (int from = 0; from <= 120; from += 61) {
          GraterOrder x = one(1, hard, teeth, 1);
          for (int n = from; n < Math.min(121, from + 61); n++) {
            int[] want = fewest(1, Math.max(0, teeth - hard), n);
            String what = "teeth " + teeth + ", hard " + hard + ", n " + n;
            Check.due(what, x.strokes(0, n), want[0]);
            for (int side = 0; side < 3; side++) {
              Check.due(what + ", side " + side, x.strokesOf(side), want[1 + side]);
            }
          }
        }
      }
    }
  }

  private static void strokesLarge() {
    Check.says("(as if his block was large and he had the GRATER that he has)");
    GraterOrder x = one(1, 0, 9, 60);
    Check.due("27 of a block of 1", x.strokes(0, 27), 1);
    Check.due("120 of a block of 1", x.strokes(0, 120), 4 + 1 + 3);
    x.grate(0, 0, 0);
    Check.due("of a block that is gone", x.strokes(0, 27), 1);
    GraterOrder y = one(4, 0, 2, 60);
    y.grate(0, 0, 0);
    Check.due("of an end", y.strokes(0, 6), 1);
    Check.due("by a slice", y.strokesOf(2), 1);
    Check.due("the grater is not worn by 120", y.strokes(0, 120), 20);
    Check.due("nor does it have strokes", y.grater(0, 2), 1);
  }

  private static void strokesLike() {
    Check.says("of like ones the fewest slices, then the fewest coarse ones");
    GraterOrder x = one(9, 0, 1, 60);
    Check.due("2 by 1", x.strokes(0, 2), 2);
    Check.due("fine", x.strokesOf(0), 2);
    Check.due("not coarse", x.strokesOf(1), 0);
    Check.due("4 by 1 and 3", x.strokes(0, 4), 2);
    Check.due("fine", x.strokesOf(0), 1);
    Check.due("slice", x.strokesOf(2), 1);
    Check.due("not coarse", x.strokesOf(1), 0);
    // by 2 and 6: 4 = 2 + 2 by two coarse ones; 7 = 6 + 1; 8 = 6 + 2; 9 = 6 + 2 + 1
    GraterOrder y = one(9, 0, 2, 60);
    Check.due("9 by 2 and 6", y.strokes(0, 9), 3);
    Check.due("fine", y.strokesOf(0), 1);
    Check.due("coarse", y.strokesOf(1), 1);
    Check.due("slice", y.strokesOf(2), 1);
  }

  private static void strokesNone() {
    Check.says("STROKES of a BROTHER for n (0 to 120): how many; NONE: by none, he has no GRATER and n is above 0, not as told");
    GraterOrder x = Check.lived();
    String before = Check.all(x);
    Check.due("-1", x.strokes(0, -1), -1);
    Check.due("121", x.strokes(0, 121), -1);
    Check.due("the least int", x.strokes(0, Integer.MIN_VALUE), -1);
    Check.due("the greatest int", x.strokes(0, Integer.MAX_VALUE), -1);
    for (int bad : NO_BROTHER) {
      Check.due("brother " + bad, x.strokes(bad, 0), -1);
      Check.due("brother " + bad, x.strokes(bad, 5), -1);
    }
    Check.due("no grater", x.strokes(2, 1), -1);
    Check.due("no grater", x.strokes(2, 120), -1);
    Check.text("nothing changes, nor what was told last", Check.all(x), before);
    Check.due("no grater, nothing", x.strokes(2, 0), 0);
    Check.due("that is told", x.strokesOf(2), 0);
    Check.due("0", x.strokes(0, 0), 0);
    Check.due("120 by 3 and 9", x.strokes(0, 120), 14);
    Check.due("slices", x.strokesOf(2), 13);
    GraterOrder y = one(9, 0, 1, 1);
    y.grate(0, 0, 0);
    Check.due("by none, blunt", y.strokes(0, 1), -1);
    Check.due("ahead of any", y.strokesOf(0), -1);
    Check.due("nothing, blunt", y.strokes(0, 0), 0);
    Check.due("told", y.strokesOf(0), 0);
  }

  private static void strokesOf() {
    Check.says("How many of them on a SIDE by the latest strokes() that was not NONE; NONE: no such one, or ahead of any");
    GraterOrder x = Check.with(Check.ORDER);
    for (int side = -1; side < 4; side++) {
      Check.due("ahead of any, " + side, x.strokesOf(side), -1);
    }
    Check.due("19 by 4 and 12", x.strokes(0, 19), 5);
    int[] want = {3, 1, 1};
    for (int side = 0; side < 3; side++) {
      Check.due("side " + side, x.strokesOf(side), want[side]);
    }
    for (int bad : NO_SIDE) {
      Check.due("side " + bad, x.strokesOf(bad), -1);
    }
    x.strokes(0, 121);
    x.strokes(2, 1);
    x.strokes(7, 1);
    x.grate(0, 0, 2);
    x.days(1);
    Check.order(x, "");
    for (int side = 0; side < 3; side++) {
      Check.due("side " + side + " still", x.strokesOf(side), want[side]);
    }
  }

  private static void heapBytes() {
    Check.says("HEAPS by the tape (2 bytes: n by both, the higher first)");
    GraterOrder x = Check.with(Check.crowd(7, 6) + "holds a p;holds b q;holds c r;holds d s;holds e t;holds f u;");
    for (int n = 0; n <= 95; n++) {
      int rows = 0;
      for (int code = 0; code < 4096; code++) {
        int sum = 0;
        for (int b = 0; b < 6; b++) {
          sum += 5 * (code >> 2 * b & 3);
        }
        rows += sum == n ? 1 : 0;
      }
      Check.due("rows of " + n, Check.heaps(x, n), rows);
    }
    Check.due("256 times 5", Check.heaps(x, 256 * 5), 0);
    Check.due("65535", Check.heaps(x, 65535), 0);
    Check.feed(x, "\5\0");
    Check.due("5 as the higher byte", x.heaps(), 0);
    Check.feed(x, "\0\5");
    Check.due("5 as the lower byte", x.heaps(), 6);
    Check.due("a byte above 127: 255", Check.heaps(x, 255), 0);
  }

  private static void heapStrokes() {
    Check.says("rows of strokes, coarse, 0 to 3 for each BROTHER who has a GRATER");
    GraterOrder x = one(9, 2, 9, 60);
    for (int n = 0; n <= 30; n++) {
      Check.due("rows of " + n + " by 7", Check.heaps(x, n), n % 7 == 0 && n <= 21 ? 1 : 0);
      if (n % 7 == 0 && n <= 21) {
        Check.due("strokes for " + n, x.heapOf(0), n / 7);
      }
    }
    GraterOrder y = one(9, 5, 5, 60);
    Check.due("strokes by which nothing falls", Check.heaps(y, 0), 4);
    Check.due("the fewest", y.heapOf(0), 0);
    Check.due("1 can't fall", Check.heaps(y, 1), 0);
  }

  private static void heapOthers() {
    Check.says("0 for others, by which just n fall");
    GraterOrder x = Check.with(Check.crowd(3, 3) + "holds b q;");
    Check.due("10", Check.heaps(x, 10), 1);
    Check.due("a", x.heapOf(0), 0);
    Check.due("b", x.heapOf(1), 2);
    Check.due("c", x.heapOf(2), 0);
    x.put(1);
    Check.due("nobody has one: 0", Check.heaps(x, 0), 1);
    Check.due("nobody has one: 5", Check.heaps(x, 5), 0);
  }

  private static void heapLarge() {
    Check.says("with his GRATER on his own block (as if it was large)");
    GraterOrder x = Check.with("brother a 1 0;brother b 1 5;grater g 9 60;grater h 6 60;holds a g;holds b h;");
    Check.due("27 of a block of 1", Check.heaps(x, 27), 1);
    Check.due("a", x.heapOf(0), 3);
    Check.due("b, by 1", x.heapOf(1), 0);
    Check.due("30", Check.heaps(x, 30), 1);
    Check.due("b, by 1", x.heapOf(1), 3);
    x.grate(0, 0, 0);
    x.grate(0, 1, 0);
    Check.due("of blocks that are gone", Check.heaps(x, 30), 1);
  }

  private static void heapFirst() {
    Check.says("the first: BROTHER by BROTHER the fewest");
    GraterOrder x = Check.with(Check.crowd(3, 3) + "holds a p;holds b q;holds c r;");
    int[][] first = {{0, 0, 0}, {0, 0, 1}, {0, 0, 2}, {0, 0, 3}, {0, 1, 3}, {0, 2, 3}, {0, 3, 3}, {1, 3, 3}, {2, 3, 3}, {3, 3, 3}};
    for (int strokes = 0; strokes < 10; strokes++) {
      Check.due("rows", Check.heaps(x, 5 * strokes) > 0, true);
      for (int b = 0; b < 3; b++) {
        Check.due(5 * strokes + " of " + b, x.heapOf(b), first[strokes][b]);
      }
    }
  }

  private static void look() {
    Check.says("LOOK: the BROTHER of whom the greatest number of these that may still be left is the least, if one hears his strokes");
    GraterOrder x = Check.with("brother a 9 0;brother b 9 0;brother c 9 0;grater g 3 60;grater h 1 60;grater i 1 60;"
        + "holds a g;holds b h;holds c i;");
    // 3i + j + k = 3: i 0: (0,3) (1,2) (2,1) (3,0); i 1: (0,0): a leaves 4, b leaves 2 (j 0), c leaves 2
    Check.due("3", Check.heaps(x, 3), 5);
    Check.due("b", x.look(), 1);
    // 3i + j + k = 6: i 0: (3,3); i 1: 4 rows; i 2: (0,0): a leaves 4; b: j 3: 2, j 0: 2, j 1, j 2: 1
    Check.due("6", Check.heaps(x, 6), 6);
    Check.due("b", x.look(), 1);
    x.put(1);
    // 3i + k = 3: (0,3) (1,0): a leaves 1, b leaves 2
    Check.due("3 without b", Check.heaps(x, 3), 2);
    Check.due("a", x.look(), 0);
    x.put(0);
    Check.due("3 by c", Check.heaps(x, 3), 1);
    Check.due("all leave 1", x.look(), 0);
    x.take(0, 1);
    x.put(2);
    x.take(2, 0);
    // i + 3k = 3: (3,0) (0,1)
    Check.due("3 by a and c", Check.heaps(x, 3), 2);
    Check.due("b would leave 2", x.look(), 0);
  }

  private static void lookLike() {
    Check.says("(of like ones the first). DEALT");
    GraterOrder x = Check.with(Check.crowd(3, 3) + "holds a p;holds b q;holds c r;");
    for (int n = 0; n <= 45; n += 5) {
      Check.due("rows of " + n, Check.heaps(x, n) > 0, true);
      Check.due("look of " + n, x.look(), 0);
    }
    x.put(0);
    Check.due("10 by b and c", Check.heaps(x, 10), 3);
    Check.due("b, c alike", x.look(), 1);
  }

  private static void heapsNone() {
    Check.says("HEAPS: how many rows; NONE: not as told");
    for (int bytes = 0; bytes <= 40; bytes++) {
      GraterOrder x = Check.lived();
      String before = Check.all(x);
      Check.feed(x, "\0".repeat(bytes));
      Check.due(bytes + " bytes", x.heaps(), bytes == 2 ? 1 : -1);
      Check.due("the tape is empty behind " + bytes, x.count(4), 0);
      if (bytes != 2) {
        Check.text("what was told last stays", Check.all(x), before);
      }
    }
    GraterOrder y = new GraterOrder();
    Check.due("no brothers, 0", Check.heaps(y, 0), 1);
    Check.due("no brothers, 1", Check.heaps(y, 1), 0);
  }

  private static void heapOf() {
    Check.says("Strokes of a BROTHER by the first of them, by the latest heaps() above 0; NONE: no such one, or ahead of any");
    GraterOrder x = Check.with(Check.crowd(3, 3) + "holds a p;holds b q;");
    Check.due("ahead of any", x.heapOf(0), -1);
    Check.heaps(x, 7);
    Check.due("behind one of 0", x.heapOf(0), -1);
    x.heaps();
    Check.due("behind one of NONE", x.heapOf(0), -1);
    Check.heaps(x, 20);
    Check.due("a", x.heapOf(0), 1);
    Check.due("b", x.heapOf(1), 3);
    Check.due("c", x.heapOf(2), 0);
    for (int bad : NO_BROTHER) {
      Check.due("brother " + bad, x.heapOf(bad), -1);
    }
    Check.heaps(x, 7);
    x.heaps();
    Check.due("a still", x.heapOf(0), 1);
    x.put(1);
    x.grate(0, 0, 2);
    Check.due("b still", x.heapOf(1), 3);
    Check.heaps(x, 5);
    Check.due("a then", x.heapOf(0), 1);
    Check.due("b then", x.heapOf(1), 0);
  }

  private static void lookNone() {
    Check.says("LOOK by that; NONE: there were no BROTHERS, or ahead of any");
    GraterOrder x = new GraterOrder();
    Check.due("ahead of any", x.look(), -1);
    Check.heaps(x, 0);
    Check.due("no brothers", x.look(), -1);
    Check.order(x, Check.crowd(2, 1) + "holds b p;");
    Check.due("there were none", x.look(), -1);
    Check.heaps(x, 7);
    Check.due("behind one of 0", x.look(), -1);
    x.heaps();
    Check.due("behind one of NONE", x.look(), -1);
    Check.heaps(x, 5);
    Check.due("all leave 1", x.look(), 0);
    Check.heaps(x, 7);
    x.heaps();
    Check.due("by the latest above 0", x.look(), 0);
    Check.order(x, "");
    Check.due("there were brothers", x.look(), 0);
    Check.heaps(x, 0);
    Check.due("there are none", x.look(), -1);
  }

  private static void dealt(GraterOrder x, int sum, int... want) {
    Check.due("sum", x.dealt(), sum);
    for (int b = 0; b < want.length; b++) {
      Check.due("of " + b, x.dealtOf(b), want[b]);
    }
  }

  private static void dealtEach() {
    Check.says("GRATERS to BROTHERS anew (each to one, a BROTHER one at most;");
    dealt(Check.with("brother a 9 0;brother b 9 0;brother c 9 0;grater g 3 1;"), 6, 0, -1, -1);
    dealt(Check.with("brother a 9 0;grater g 1 1;grater h 2 1;"), 1, 1);
    dealt(Check.with("brother a 9 0;brother b 9 0;grater g 3 1;grater h 3 1;grater i 3 1;"), 0, 0, 1);
    dealt(Check.with(Check.crowd(7, 6) + "even 5;"), 5, 0, 1, 2, 3, 4, 5, -1);
    dealt(Check.with(Check.crowd(7, 0) + "even 20;"), 140, -1, -1, -1, -1, -1, -1, -1);
    dealt(Check.with(Check.crowd(0, 6)), 0);
    GraterOrder x = Check.with(Check.crowd(7, 6) + "even 5;");
    dealt(x, 5, 0, 1, 2, 3, 4, 5, -1);
    for (int brothers = 6; brothers >= 0; brothers--) {
      Check.order(x, Check.crowd(brothers, 0) + "even 20;");
      dealt(x, 20 * brothers, -1, -1, -1, -1, -1, -1, -1);
    }
  }

  private static void dealtWhoever() {
    Check.says("whoever has them now)");
    GraterOrder x = Check.with("brother a 9 0;brother b 9 0;grater g 3 1;grater h 9 1;holds a h;holds b g;");
    String before = Check.all(x);
    Check.due("sum", x.dealt(), 3);
    Check.due("a", x.dealtOf(0), 0);
    Check.due("b", x.dealtOf(1), -1);
    Check.due("a has h still", x.brother(0, 3), 1);
    Check.due("b has g still", x.brother(1, 3), 0);
    Check.due("nothing to undo", x.undo(), -1);
    GraterOrder y = Check.with("brother a 9 0;brother b 9 0;grater g 3 1;grater h 9 1;holds a h;holds b g;");
    Check.text("nothing was changed", Check.all(y), before);
  }

  private static void dealtSum() {
    Check.says("so that the sum of how much each BROTHER's coarse CURL on his own block as it is (0 without a GRATER) is off 'even' is the least");
    dealt(Check.with("brother a 9 0;grater g 9 1;even 4;"), 4, -1);
    dealt(Check.with("brother a 9 0;grater g 9 1;even 5;"), 4, 0);
    dealt(Check.with("brother a 2 0;grater g 9 1;even 4;"), 2, 0);
    dealt(Check.with("brother a 9 5;grater g 9 1;even 4;"), 0, 0);
    dealt(Check.with("brother a 9 5;grater g 5 1;even 4;"), 4, 0);
    dealt(Check.with("brother a 9 0;brother b 9 5;grater g 9 1;grater h 4 1;even 4;"), 0, 1, 0);
    dealt(Check.with("brother a 9 0;even 0;grater g 1 1;"), 0, -1);
    // a greedy deal of g to a would cost more: a 4 by g or 3 by h; b 0 by h, 4 by g
    dealt(Check.with("brother a 9 0;brother b 9 3;grater g 4 9;grater h 3 9;grater i 7 9;even 4;"), 0, 0, 2);
    dealt(Check.with("brother a 9 0;brother b 9 1;grater g 5 9;grater h 4 9;even 4;"), 0, 1, 0);
    GraterOrder x = one(9, 0, 3, 60);
    for (int i = 0; i < 9; i++) {
      x.grate(0, 0, 0);
    }
    dealt(x, 3, 0);
  }

  private static void dealtFirst() {
    Check.says("of like ones the first: BROTHER by BROTHER the least GRATER, none behind all");
    dealt(Check.with("brother a 9 0;brother b 9 0;grater g 3 1;grater h 3 1;"), 0, 0, 1);
    dealt(Check.with("brother a 9 0;brother b 9 0;grater g 3 1;"), 3, 0, -1);
    dealt(Check.with("brother a 9 0;brother b 9 0;grater g 6 1;grater h 6 1;"), 6, 0, 1);
    dealt(Check.with("brother a 9 5;brother b 9 0;grater g 3 1;grater h 2 1;"), 3, 1, 0);
    dealt(Check.with("brother a 9 5;brother b 9 5;grater g 3 1;grater h 2 1;"), 6, 0, 1);
    dealt(Check.with("brother a 9 0;brother b 9 0;grater g 2 1;grater h 4 1;"), 2, 0, 1);
    dealt(Check.with("brother a 9 5;brother b 9 0;grater g 3 1;"), 3, -1, 0);
  }

  private static void dealtAnswers() {
    Check.says("DEALT: the sum");
    dealt(new GraterOrder(), 0, -1);
    for (int even = 0; even <= 20; even++) {
      int best = Math.min(even, Math.min(Math.abs(9 - even), Math.abs(1 - even)));
      dealt(Check.with("brother a 240 0;grater g 9 60;grater h 1 60;even " + even + ";"), best);
      dealt(Check.with(Check.crowd(7, 0) + "even " + even + ";"), 7 * even);
    }
    // the most: seven for 20 with six of nine teeth
    StringBuilder order = new StringBuilder(Check.crowd(7, 0)).append("even 20;");
    for (int g = 0; g < 6; g++) {
      order.append("grater ").append((char) ('p' + g)).append(" 9 60;");
    }
    dealt(Check.with(order.toString()), 20 + 6 * 11, 0, 1, 2, 3, 4, 5, -1);
  }

  private static void dealtNone() {
    Check.says("The GRATER of a BROTHER by the latest dealt(); NONE: none, no such one, or ahead of any");
    GraterOrder x = Check.with(Check.crowd(3, 2) + "even 5;");
    for (int b = -1; b < 8; b++) {
      Check.due("ahead of any, " + b, x.dealtOf(b), -1);
    }
    Check.due("sum", x.dealt(), 5);
    Check.due("a", x.dealtOf(0), 0);
    Check.due("b", x.dealtOf(1), 1);
    Check.due("none", x.dealtOf(2), -1);
    for (int bad : NO_BROTHER) {
      Check.due("brother " + bad, x.dealtOf(bad), -1);
    }
    x.take(2, 0);
    x.days(3);
    Check.due("as it was told", x.dealtOf(0), 0);
  }

  private static void gone() {
    Check.says("GONE: in how many DAYS a block is gone, if 'even' falls from it each DAY from today on");
    for (int even = 1; even <= 20; even++) {
      for (int block = 1; block <= 240; block += even > 5 ? 7 : 1) {
        int days = 0;
        for (int left = block; left > 0; left -= even) {
          days++;
        }
        Check.due(block + " by " + even, Check.with("brother a " + block + " 0;even " + even + ";").gone(0), days);
      }
    }
    GraterOrder x = Check.with("brother a 10 0;grater g 1 60;holds a g;even 3;");
    int[] days = {4, 3, 3, 3, 2, 2, 2, 1, 1, 1, 0};
    for (int i = 0; i < days.length; i++) {
      Check.due(10 - i + " by 3", x.gone(0), days[i]);
      x.grate(0, 0, 0);
    }
  }

  private static void goneNone() {
    Check.says("GONE: how many DAYS (0: it is); NONE: never, no such one");
    GraterOrder x = Check.with("brother a 1 0;brother b 240 0;grater g 1 60;holds a g;even 0;");
    Check.due("never", x.gone(0), -1);
    Check.due("never", x.gone(1), -1);
    x.grate(0, 0, 0);
    Check.due("it is", x.gone(0), 0);
    GraterOrder y = Check.with(Check.ORDER);
    for (int bad : NO_BROTHER) {
      Check.due("brother " + bad, y.gone(bad), -1);
    }
    Check.due("of an empty order", new GraterOrder().gone(0), -1);
  }

  private static void fractions() {
    Check.says("All fractions are told by two numbers: 0 above, 1 below, in least terms");
    for (int block : new int[] {1, 2, 7, 12, 60, 97, 240}) {
      GraterOrder x = one(block, 0, 9, 60);
      for (int left = block; left >= 0; left--) {
        int d = block;
        while (left % d != 0 || block % d != 0) {
          d--;
        }
        if (block - left < 120) {
          Check.due(left + " of " + block + " above", x.time(0, 0), left / d);
          Check.due(left + " of " + block + " below", x.time(0, 1), block / d);
        }
        x.grate(0, 0, 0);
      }
    }
    GraterOrder y = one(27, 0, 9, 60);
    Check.due("all", y.time(0, 0) * 10 + y.time(0, 1), 11);
    y.grate(0, 0, 2);
    Check.due("nothing, above", y.time(0, 0), 0);
    Check.due("nothing, below", y.time(0, 1), 1);
  }

  private static void timeThrows() {
    Check.says("TIME of a BROTHER. NoSuchElementException: no such ones");
    GraterOrder x = Check.lived();
    String before = Check.all(x);
    for (int bad : NO_BROTHER) {
      Check.timeThrowsNoSuch(x, bad, 0);
      Check.timeThrowsNoSuch(x, bad, 1);
    }
    for (int bad : new int[] {-1, 2, 3, Integer.MIN_VALUE, Integer.MAX_VALUE}) {
      Check.timeThrowsNoSuch(x, 0, bad);
    }
    Check.text("nothing changes", Check.all(x), before);
    Check.timeThrowsNoSuch(new GraterOrder(), 0, 0);
  }

  private static void fromNone() {
    Check.says("What a BROTHER grated from the block of one (his own, too) so far; NONE: no such ones");
    GraterOrder x = Check.lived();
    Check.due("his own", x.from(0, 0), 12);
    Check.due("ben's by abel", x.from(0, 1), 3);
    Check.due("abel's by ben, today", x.from(1, 0), 5);
    Check.due("none", x.from(2, 0), 0);
    Check.due("none", x.from(0, 2), 0);
    for (int bad : NO_BROTHER) {
      Check.due("by " + bad, x.from(bad, 0), -1);
      Check.due("of " + bad, x.from(0, bad), -1);
    }
    Check.due("of an empty order", new GraterOrder().from(0, 0), -1);
  }

  private static void thief() {
    Check.says("THIEF of a BROTHER: who of all others grated most from his block (of like ones the first)");
    GraterOrder x = Check.with(Check.crowd(4, 4) + "holds a p;holds b q;holds c r;holds d s;");
    Check.due("nobody", x.thief(2), -1);
    x.grate(2, 2, 2);
    Check.due("he himself is none", x.thief(2), -1);
    x.grate(3, 2, 0);
    Check.due("d", x.thief(2), 3);
    x.grate(1, 2, 0);
    Check.due("b and d alike", x.thief(2), 1);
    x.grate(3, 2, 0);
    Check.due("d more", x.thief(2), 3);
    x.grate(0, 2, 0);
    x.grate(0, 2, 0);
    Check.due("a and d alike", x.thief(2), 0);
    x.grate(1, 2, 0);
    Check.due("all alike", x.thief(2), 0);
    x.grate(1, 2, 0);
    Check.due("b more, less than he himself", x.thief(2), 1);
  }

  private static void thiefNone() {
    Check.says("THIEF of a BROTHER; NONE: nobody, no such one");
    GraterOrder x = Check.lived();
    Check.due("ben", x.thief(0), 1);
    Check.due("abel", x.thief(1), 0);
    Check.due("nobody", x.thief(2), -1);
    for (int bad : NO_BROTHER) {
      Check.due("of " + bad, x.thief(bad), -1);
    }
    Check.due("of an empty order", new GraterOrder().thief(0), -1);
  }

  private static void tag() {
    Check.says("' has ' and what is left as digits, ' of ' and what it was, then ' by ' and the NAME of the GRATER that he has, if he has one");
    GraterOrder x = Check.with("brother a 101 0;brother abcdefg 240 0;grater z 1 60;grater hijklmn 9 60;holds a z;holds abcdefg hijklmn;");
    Check.text("the longest", Check.tag(x, 1), "abcdefg has 240 of 240 by hijklmn");
    Check.text("three digits", Check.tag(x, 0), "a has 101 of 101 by z");
    x.grate(0, 0, 0);
    Check.text("100", Check.tag(x, 0), "a has 100 of 101 by z");
    x.grate(0, 0, 0);
    Check.text("99", Check.tag(x, 0), "a has 99 of 101 by z");
    x.put(0);
    Check.text("without one", Check.tag(x, 0), "a has 99 of 101");
    GraterOrder y = one(11, 0, 1, 60);
    for (int left = 11; left >= 0; left--) {
      Check.text("left " + left, Check.tag(y, 0), "a has " + left + " of 11 by g");
      y.grate(0, 0, 0);
    }
  }

  private static void tagNone() {
    Check.says("TAG of a BROTHER: how many bytes; NONE: no such one");
    GraterOrder x = Check.lived();
    Check.due("abel", x.tag(0), "abel has 23 of 40 by rasp".length());
    Check.due("cid", x.tag(2), "cid has 3 of 3".length());
    String before = Check.all(x);
    for (int bad : NO_BROTHER) {
      Check.due("of " + bad, x.tag(bad), -1);
    }
    Check.text("nothing changes, nor the latest tag", Check.all(x), before);
    Check.due("of an empty order", new GraterOrder().tag(0), -1);
    Check.due("the shortest", Check.with("brother a 1 0;").tag(0), 12);
    Check.due("the longest", Check.with("brother abcdefg 240 0;grater hijklmn 9 60;holds abcdefg hijklmn;").tag(0), 33);
  }

  private static void byteAt() {
    Check.says("Byte i of the latest TAG; NONE: none such");
    GraterOrder x = Check.with(Check.ORDER);
    Check.due("ahead of any", x.byteAt(0), -1);
    String tag = "abel has 40 of 40 by rasp";
    x.tag(0);
    for (int i = -3; i < 45; i++) {
      Check.due("byte " + i, x.byteAt(i), i >= 0 && i < tag.length() ? tag.charAt(i) : -1);
    }
    Check.due("the least int", x.byteAt(Integer.MIN_VALUE), -1);
    Check.due("the greatest int", x.byteAt(Integer.MAX_VALUE), -1);
    x.tag(2);
    Check.due("behind a shorter one", x.byteAt(14), -1);
    Check.due("its last", x.byteAt(13), '3');
    x.tag(7);
    Check.due("the latest", x.byteAt(0), 'c');
    x.grate(0, 2, 0);
    Check.due("as it was", x.byteAt(8), '3');
  }

  private static void wrapping() {
    Check.says("for each draw of n x becomes x * 1103515245 + 12345 (an int, wrapping), the draw is (x >>> 8) % n");
    for (int seed : new int[] {0, 1, -1, 2, 12345, 1103515245, Integer.MAX_VALUE, Integer.MIN_VALUE, -12345, 7654321, 3, 4, 5, 6, 7, 8, 9}) {
      GraterOrder x = Check.with(Check.ORDER);
      GraterOrder y = Check.with(Check.ORDER);
      Check.due("drawn by " + seed, x.drawn(9, seed), 9);
      long lot = seed;
      for (int day = 0; day < 9; day++) {
        int heap = 0;
        for (int b = 0; b < 3; b++) {
          lot = next(lot);
          int kind = (int) (lot / 256 % 4);
          int whose = b;
          if (kind == 3) {
            lot = next(lot);
            whose = (int) (lot / 256 % 3);
          }
          int before = y.now(1);
          y.grate(b, whose, kind % 3);
          heap += y.now(1) - before;
        }
        lot = next(lot);
        if (day == 8) {
          Check.due("swept by " + seed, x.now(2), lot / 256 % 12 < 6 ? heap / 2 : heap);
        }
        y.days(1);
      }
      for (int b = 0; b < 3; b++) {
        for (int what = 0; what < 8; what++) {
          Check.due("brother(" + b + ", " + what + ") by " + seed, x.brother(b, what), y.brother(b, what));
        }
      }
    }
  }

  /** The next x as a number from 0 on below 2 to the 32nd. */
  private static long next(long x) {
    return Math.floorMod(Math.floorMod(x, 1L << 32) * 1103515245L + 12345, 1L << 32);
  }

  private static int firstDraw(int seed, int of) {
    return (int) (next(seed) / 256 % of);
  }

  private static void drawnSides() {
    Check.says("a draw of 4: 0 to 2: he grates his own block on that SIDE, 3: a draw of all BROTHERS: he grates that one's fine");
    int[] seen = new int[4];
    for (int seed = 0; seed < 40; seed++) {
      int kind = firstDraw(seed, 4);
      seen[kind]++;
      GraterOrder x = Check.with("brother a 100 0;brother b 100 0;brother c 100 0;grater g 5 60;holds a g;");
      x.drawn(1, seed);
      long second = next(next(seed));
      int whose = kind < 3 ? 0 : (int) (second / 256 % 3);
      int[] falls = {1, 5, 15, 1};
      for (int b = 0; b < 3; b++) {
        Check.due("seed " + seed + ", kind " + kind + ", from " + b, x.from(0, b), b == whose ? falls[kind] : 0);
      }
    }
    for (int kind = 0; kind < 4; kind++) {
      Check.due("kind " + kind + " was drawn", seen[kind] > 0, true);
    }
  }

  private static void drawnIfHeCan() {
    Check.says("(each, if he can)");
    GraterOrder x = Check.with("brother a 4 0;brother b 9 0;grater g 1 60;holds a g;");
    x.grate(0, 0, 0);
    for (int seed = 0; seed < 20; seed++) {
      int kind = firstDraw(seed, 4);
      x.drawn(1, seed);
      int own = kind == 0 || kind == 3 && next(next(seed)) / 256 % 2 == 0 ? 1 : 0;
      Check.due("an end by kind " + kind, 3 - x.brother(0, 0), own);
      Check.due("nobody is hurt", x.brother(0, 5), 0);
      x.undo();
    }
    GraterOrder y = Check.with("brother a 4 0;brother b 9 0;grater g 1 60;");
    Check.due("nobody has a grater", y.drawn(60, 5), 60);
    Check.due("nothing fell", y.now(6), 13);
    Check.due("the days went by", y.now(0), 60);
    Check.due("odd by 3 a day", y.now(7), 360);
  }

  private static void drawnDraught() {
    Check.says("then a draw of 12: below 'draught' the heap is half (cut); then the DAY");
    for (int draught = 0; draught <= 12; draught++) {
      for (int seed = 0; seed < 30; seed++) {
        int kind = firstDraw(seed, 4);
        GraterOrder x = Check.with("brother a 100 0;grater g 5 60;holds a g;draught " + draught + ";");
        x.grate(0, 0, 1);
        x.grate(0, 0, 0);
        x.drawn(1, seed);
        long lot = next(next(seed));
        lot = kind == 3 ? next(lot) : lot;
        int heap = 6 + new int[] {1, 5, 15, 1}[kind];
        boolean blown = lot / 256 % 12 < draught;
        Check.due("draught " + draught + ", seed " + seed, x.now(2), blown ? heap / 2 : heap);
        Check.due("what he grated is off 3", x.brother(0, 6), heap - 3);
        Check.due("heap", x.now(1), 0);
      }
    }
  }

  private static void drawnNone() {
    Check.says("n (1 to 60) DAYS DRAWN by a seed: how many went by; NONE: not as told, no BROTHERS");
    GraterOrder x = Check.lived();
    String before = Check.all(x);
    for (int bad : new int[] {0, -1, 61, 62, 400, Integer.MIN_VALUE, Integer.MAX_VALUE}) {
      Check.due("drawn " + bad, x.drawn(bad, 1), -1);
    }
    Check.text("nothing changes", Check.all(x), before);
    Check.due("the least", x.drawn(1, 1), 1);
    Check.due("the most", x.drawn(60, 1), 60);
    for (int i = 0; i < 5; i++) {
      x.drawn(60, i);
    }
    Check.due("as many as are left", x.drawn(60, 1), 38);
    before = Check.all(x);
    Check.due("none is left", x.drawn(60, 1), 0);
    Check.text("nothing changes", Check.all(x), before);
    GraterOrder y = Check.with(Check.crowd(0, 6));
    Check.due("no brothers", y.drawn(1, 1), -1);
    Check.due("no brothers", y.drawn(60, 1), -1);
    Check.due("no day went by", y.now(0), 0);
    Check.due("one brother alone", Check.with(Check.crowd(1, 0)).drawn(1, 1), 1);
  }

  private static int timesGone(String order, int days, int b, int n, int seed) {
    int times = 0;
    for (int i = 0; i < n; i++) {
      GraterOrder y = Check.with(order);
      y.drawn(days, seed + i);
      times += y.brother(b, 0) == 0 ? 1 : 0;
    }
    return times;
  }

  private static void oddsSeeds() {
    Check.says("Of n (1 to 30) seeds x, x and 1, ..");
    String order = "brother a 30 0;brother b 12 0;grater g 3 5;grater h 2 9;holds a g;holds b h;";
    for (int n : new int[] {1, 2, 3, 29, 30}) {
      for (int seed : new int[] {0, 1, -15, 1000, Integer.MAX_VALUE - 14, Integer.MAX_VALUE, Integer.MIN_VALUE}) {
        for (int b = 0; b < 2; b++) {
          int want = timesGone(order, 20, b, n, seed);
          Check.due(n + " seeds from " + seed + " of " + b, Check.with(order).odds(b, n, seed), want);
        }
      }
    }
  }

  private static void oddsDays() {
    Check.says("by how many a BROTHER's block is gone behind 20 DAYS DRAWN from now on");
    String order = "brother a 22 0;grater g 1 60;holds a g;";
    int by20 = timesGone(order, 20, 0, 30, 50);
    Check.due("20 days are not 19", by20 != timesGone(order, 19, 0, 30, 50) || by20 != timesGone(order, 21, 0, 30, 50), true);
    GraterOrder x = Check.with(order);
    String before = Check.all(x);
    Check.due("odds", x.odds(0, 30, 50), by20);
    Check.text("nothing changes", Check.all(x), before);
    Check.due("nothing to undo", x.undo(), -1);
    for (int seed = 0; seed < 400; seed += 30) {
      Check.due("from " + seed, x.odds(0, 30, seed), timesGone(order, 20, 0, 30, seed));
    }
    GraterOrder y = one(1, 0, 1, 60);
    Check.due("not yet", y.odds(0, 30, 1), 30);
    y.grate(0, 0, 0);
    Check.due("it is already", y.odds(0, 30, 1), 30);
    GraterOrder z = Check.with("brother a 1 0;");
    Check.due("by nobody", z.odds(0, 30, 1), 0);
  }

  private static void oddsNone() {
    Check.says("20 DAYS DRAWN from now on; NONE: no such ones");
    GraterOrder x = Check.lived();
    String before = Check.all(x);
    for (int bad : NO_BROTHER) {
      Check.due("brother " + bad, x.odds(bad, 1, 1), -1);
    }
    for (int bad : new int[] {0, -1, 31, 32, Integer.MIN_VALUE, Integer.MAX_VALUE}) {
      Check.due(bad + " seeds", x.odds(0, bad, 1), -1);
    }
    Check.text("nothing changes", Check.all(x), before);
    Check.due("of an empty order", new GraterOrder().odds(0, 1, 1), -1);
    boolean in = x.odds(0, 30, 1) >= 0 && x.odds(0, 1, 1) >= 0;
    Check.due("1 and 30 are such ones", in, true);
  }

  private static void newOrder() {
    Check.says("A new ORDER: DAY 0, blocks whole, no strokes, no heap, no SENTENCE");
    GraterOrder x = Check.with(Check.ORDER);
    x.grate(0, 0, 2);
    x.grate(1, 1, 2);
    x.grate(1, 0, 1);
    x.file(1);
    x.days(3);
    x.grate(0, 0, 1);
    x.days(1);
    x.grate(0, 1, 0);
    x.grate(0, 2, 2);
    x.swap(0, 2);
    Check.sentence(x, "armed");
    Check.due("something was swept, and hurt", x.now(2) * 10 + x.brother(0, 5), 41);
    Check.order(x, Check.ORDER);
    Check.due("nobody is hurt", x.brother(0, 5) + x.brother(1, 5), 0);
    Check.due("nobody was odd", x.now(7), 0);
    Check.due("nothing was taken", x.brother(1, 7) + x.from(0, 1) + x.from(0, 0), 0);
    Check.text("as a new object with that order", Check.all(x), Check.all(Check.with(Check.ORDER)));
    Check.due("day", x.now(0), 0);
    Check.due("whole", x.now(6), 55);
    Check.due("no strokes", x.grater(0, 2) + x.grater(1, 2), 0);
    Check.due("no heap", x.now(1), 0);
    Check.due("no last heap", x.now(2), 0);
    Check.due("no sentence", x.said(-1), -1);
  }

  private static void throwsNothing() {
    Check.says("A call that throws changes nothing");
    GraterOrder x = Check.lived();
    x.feed(1, 2, 3, 4, 5);
    String before = Check.all(x);
    Check.throwsNoSuch(x, 3, 0);
    Check.throwsNoSuch(x, 0, 8);
    Check.timeThrowsNoSuch(x, 3, 0);
    Check.timeThrowsNoSuch(x, 0, 2);
    Check.text("all stays", Check.all(x), before);
    Check.due("what can be undone stays", x.undo(), 3);
  }
}
