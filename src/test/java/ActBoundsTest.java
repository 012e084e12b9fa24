/**
 * Each sentence about biting, acts, DAYS and undoing (the document's part 2, promises 9 to 15)
 * that names a boundary or a refusal has a test of its own here.
 */
public final class ActBoundsTest {
  public static void main(String[] args) {
    bites();
    bitesNought();
    fine();
    coarse();
    slice();
    leftBounds();
    whyNotLeast();
    noGrater();
    blockGone();
    end();
    nothingOff();
    falls();
    strokesOfASlice();
    knuckles();
    mostKnuckles();
    take();
    put();
    swap();
    file();
    dayRange();
    oddness();
    mostOddness();
    swept();
    grateNone();
    takeNone();
    putNone();
    swapNone();
    fileNone();
    daysNone();
    undoWhat();
    undoMost();
    undoRing();
    undoNone();
    Check.finish();
  }

  private static GraterOrder one(int block, int hard, int teeth, int edge) {
    return Check.with("brother a " + block + " " + hard + ";grater g " + teeth + " " + edge + ";holds a g;");
  }

  /** A refused act: its answer, and nothing is changed, nor can it be undone. */
  private static void refused(String what, GraterOrder x, String before, int got, int why) {
    Check.due(what, got, why);
    Check.text(what + " changes nothing", Check.all(x), before);
  }

  private static void bites() {
    Check.says("A GRATER BITES as many as its TEETH, less 1 for each EDGE of strokes since it was filed");
    for (int edge : new int[] {1, 2, 3, 59, 60}) {
      GraterOrder x = one(240, 0, 9, edge);
      for (int strokes = 0; strokes < Math.min(9 * edge, 125); strokes++) {
        Check.due("edge " + edge + ", strokes", x.grater(0, 2), strokes);
        Check.due("edge " + edge + ", bites after " + strokes, x.grater(0, 3), 9 - strokes / edge);
        Check.due("fine", x.grate(0, 0, 0), 0);
      }
    }
    GraterOrder y = one(240, 0, 4, 2);
    y.grate(0, 0, 0);
    y.grate(0, 0, 2);
    Check.due("3 strokes", y.grater(0, 3), 3);
    y.file(0);
    Check.due("since it was filed", y.grater(0, 3), 4);
    y.grate(0, 0, 0);
    Check.due("1 stroke since", y.grater(0, 3), 4);
    y.grate(0, 0, 0);
    Check.due("2 strokes since", y.grater(0, 3), 3);
  }

  private static void bitesNought() {
    Check.says("since it was filed (0 at least)");
    GraterOrder x = one(240, 0, 2, 2);
    for (int i = 0; i < 4; i++) {
      Check.due("fine " + i, x.grate(0, 0, 0), 0);
    }
    Check.due("4 strokes of 2 by 2", x.grater(0, 3), 0);
    GraterOrder y = one(240, 0, 1, 1);
    Check.due("a slice is two strokes", y.grate(0, 0, 2), 0);
    Check.due("strokes", y.grater(0, 2), 2);
    Check.due("1 less 2", y.grater(0, 3), 0);
    Check.due("curl", y.curl(0, 0, 1), 0);
    Check.due("curl", y.curl(0, 0, 2), 0);
    Check.due("for nothing", y.strokes(0, 0), 0);
    Check.due("for 1", y.strokes(0, 1), -1);
    GraterOrder z = one(240, 0, 2, 1);
    z.grate(0, 0, 0);
    z.grate(0, 0, 2);
    Check.due("2 less 3", z.grater(0, 3), 0);
    Check.due("filed", z.file(0), 0);
    Check.due("as many as its teeth", z.grater(0, 3), 2);
  }

  private static void fine() {
    Check.says("fine: 1, if it BITES more than 0");
    for (int teeth = 1; teeth <= 9; teeth++) {
      for (int hard = 0; hard <= 5; hard++) {
        GraterOrder x = one(240, hard, teeth, 1);
        Check.due("teeth " + teeth + ", hard " + hard, x.curl(0, 0, 0), 1);
        for (int i = 0; i < teeth; i++) {
          Check.due("curl by what bites " + (teeth - i), x.curl(0, 0, 0), 1);
          Check.due("fine", x.grate(0, 0, 0), 0);
        }
        Check.due("bites 0", x.grater(0, 3), 0);
        Check.due("curl then", x.curl(0, 0, 0), 0);
        Check.due("fine then", x.grate(0, 0, 0), 4);
      }
    }
  }

  private static void coarse() {
    Check.says("coarse: what it BITES less how HARD the block is (0 at least)");
    for (int teeth = 1; teeth <= 9; teeth++) {
      for (int hard = 0; hard <= 5; hard++) {
        int falls = teeth > hard ? teeth - hard : 0;
        GraterOrder x = one(240, hard, teeth, 60);
        Check.due("teeth " + teeth + ", hard " + hard, x.curl(0, 0, 1), falls);
        Check.due("grated", x.grate(0, 0, 1), falls > 0 ? 0 : 4);
        Check.due("fell", x.now(1), falls);
      }
    }
  }

  private static void slice() {
    Check.says("slice: three times that");
    for (int teeth = 1; teeth <= 9; teeth++) {
      for (int hard = 0; hard <= 5; hard++) {
        int falls = teeth > hard ? 3 * (teeth - hard) : 0;
        GraterOrder x = one(240, hard, teeth, 60);
        Check.due("teeth " + teeth + ", hard " + hard, x.curl(0, 0, 2), falls);
        Check.due("sliced", x.grate(0, 0, 2), falls > 0 ? 0 : 4);
        Check.due("fell", x.now(1), falls);
      }
    }
  }

  private static void leftBounds() {
    Check.says("What is left of a block bounds it");
    for (int block = 1; block <= 30; block++) {
      GraterOrder x = one(block, 0, 9, 60);
      Check.due("fine of " + block, x.curl(0, 0, 0), 1);
      Check.due("coarse of " + block, x.curl(0, 0, 1), Math.min(9, block));
      Check.due("slice of " + block, x.curl(0, 0, 2), Math.min(27, block));
      Check.due("sliced", x.grate(0, 0, 2), 0);
      Check.due("left of " + block, x.brother(0, 0), Math.max(0, block - 27));
      Check.due("fell of " + block, x.now(1), Math.min(27, block));
      if (block <= 27) {
        for (int side = 0; side < 3; side++) {
          Check.due("of what is gone", x.curl(0, 0, side), 0);
        }
      }
    }
  }

  private static void whyNotLeast() {
    Check.says("on a SIDE: why not, the least");
    GraterOrder x = Check.with("brother a 4 5;brother b 1 0;brother c 9 0;grater g 5 1;holds a g;");
    x.grate(0, 1, 0);
    x.grate(0, 0, 0);
    Check.due("a has an end, b nothing", x.brother(0, 0) * 10 + x.brother(1, 0), 30);
    Check.due("no grater and gone", x.grate(2, 1, 0), 1);
    Check.due("no grater and gone, coarse", x.grate(2, 1, 1), 1);
    Check.due("no grater and an end", x.grate(2, 0, 1), 1);
    Check.due("no grater alone", x.grate(2, 2, 0), 1);
    Check.due("an end of which nothing comes off", x.grate(0, 0, 1), 3);
    Check.due("nor by a slice", x.grate(0, 0, 2), 3);
    for (int i = 0; i < 3; i++) {
      Check.due("fine", x.grate(0, 0, 0), 0);
    }
    Check.due("the grater bites no more", x.grater(0, 3), 0);
    Check.due("gone, it was more than 3, and coarse", x.grate(0, 0, 1), 2);
    Check.due("gone and nothing comes off", x.grate(0, 0, 0), 2);
    Check.due("nothing comes off alone", x.grate(0, 2, 0), 4);
  }

  private static void noGrater() {
    Check.says("1 he has no GRATER");
    GraterOrder x = Check.lived();
    String before = Check.all(x);
    for (int side = 0; side < 3; side++) {
      refused("cid, of abel's, side " + side, x, before, x.grate(2, 0, side), 1);
    }
    x.take(2, 2);
    Check.due("with one", x.grate(2, 0, 0), 0);
    x.put(2);
    Check.due("put down", x.grate(2, 0, 0), 1);
  }

  private static void blockGone() {
    Check.says("2 the block is gone");
    for (int block = 1; block <= 4; block++) {
      GraterOrder x = one(block, 0, 9, 60);
      for (int i = 0; i < block; i++) {
        Check.due("fine " + i + " of " + block, x.grate(0, 0, 0), 0);
      }
      String before = Check.all(x);
      for (int side = 0; side < 3; side++) {
        refused("of 0, side " + side, x, before, x.grate(0, 0, side), 2);
      }
    }
  }

  private static void end() {
    Check.says("3 it is an END (3 or less are left of a block that was more than 3) and he does not do it fine");
    for (int block = 1; block <= 6; block++) {
      for (int left = block; left >= 1; left--) {
        for (int side = 0; side < 3; side++) {
          GraterOrder x = one(block, 0, 1, 60);
          for (int i = block; i > left; i--) {
            x.grate(0, 0, 0);
          }
          String before = Check.all(x);
          String what = "side " + side + " with " + left + " left of " + block;
          if (left <= 3 && block > 3 && side != 0) {
            refused(what, x, before, x.grate(0, 0, side), 3);
          } else {
            Check.due(what, x.grate(0, 0, side), 0);
          }
        }
      }
    }
    GraterOrder y = Check.with("brother a 240 0;brother b 240 0;grater g 9 60;holds a g;");
    for (int i = 0; i < 8; i++) {
      y.grate(0, 1, 2);
    }
    for (int i = 0; i < 21; i++) {
      y.grate(0, 1, 0);
    }
    Check.due("another's end", y.brother(1, 0), 3);
    Check.due("coarse", y.grate(0, 1, 1), 3);
    Check.due("slice", y.grate(0, 1, 2), 3);
    Check.due("fine", y.grate(0, 1, 0), 0);
  }

  private static void nothingOff() {
    Check.says("4 nothing comes off");
    GraterOrder x = one(240, 5, 5, 1);
    String before = Check.all(x);
    refused("coarse, as hard as it bites", x, before, x.grate(0, 0, 1), 4);
    refused("slice, as hard as it bites", x, before, x.grate(0, 0, 2), 4);
    Check.due("nothing to undo", x.undo(), -1);
    for (int i = 0; i < 5; i++) {
      Check.due("fine", x.grate(0, 0, 0), 0);
    }
    before = Check.all(x);
    for (int side = 0; side < 3; side++) {
      refused("blunt, side " + side, x, before, x.grate(0, 0, side), 4);
    }
    GraterOrder y = one(240, 4, 5, 60);
    Check.due("1 comes off coarse", y.grate(0, 0, 1), 0);
    Check.due("3 by a slice", y.grate(0, 0, 2), 0);
    Check.due("4 fell", y.now(1), 4);
  }

  private static void falls() {
    Check.says("the CURL falls from it onto the heap; he has grated so much more today");
    GraterOrder x = Check.with(Check.ORDER);
    x.grate(0, 1, 1);
    x.grate(1, 0, 2);
    x.grate(0, 0, 0);
    Check.due("from ben's", x.brother(1, 0), 12 - 3);
    Check.due("from abel's", x.brother(0, 0), 40 - 15 - 1);
    Check.due("heap", x.now(1), 3 + 15 + 1);
    Check.due("abel today", x.brother(0, 4), 3 + 1);
    Check.due("ben today", x.brother(1, 4), 15);
    Check.due("cid today", x.brother(2, 4), 0);
    Check.due("cid's, bounded", x.grate(1, 2, 2), 0);
    Check.due("heap, bounded", x.now(1), 3 + 15 + 1 + 3);
    Check.due("today, bounded", x.brother(1, 4), 15 + 3);
    Check.due("from, bounded", x.from(1, 2), 3);
  }

  private static void strokesOfASlice() {
    Check.says("the GRATER had a stroke more (a slice: two)");
    GraterOrder x = Check.with("brother a 240 0;brother b 1 0;grater g 9 60;grater h 9 60;holds a g;");
    x.grate(0, 0, 0);
    Check.due("fine", x.grater(0, 2), 1);
    x.grate(0, 0, 1);
    Check.due("coarse", x.grater(0, 2), 2);
    x.grate(0, 0, 2);
    Check.due("slice", x.grater(0, 2), 4);
    x.grate(0, 1, 2);
    Check.due("a slice of 1 that is left", x.grater(0, 2), 6);
    Check.due("the other grater", x.grater(1, 2), 0);
  }

  private static void knuckles() {
    Check.says("By a slice from a block of which less than 10 were left he hurts a knuckle more");
    for (int block = 1; block <= 14; block++) {
      for (int side = 0; side < 3; side++) {
        GraterOrder x = Check.with("brother a 9 0;brother b " + block + " 0;grater g 1 60;holds a g;");
        Check.due("side " + side + " of " + block, x.grate(0, 1, side), 0);
        Check.due("hurt by side " + side + " of " + block, x.brother(0, 5), side == 2 && block < 10 ? 1 : 0);
        Check.due("the other one", x.brother(1, 5), 0);
      }
    }
    GraterOrder y = one(12, 0, 1, 60);
    y.grate(0, 0, 2);
    Check.due("12 were left, 9 are", y.brother(0, 5), 0);
    y.grate(0, 0, 2);
    Check.due("9 were left of 12", y.brother(0, 5), 1);
    y.grate(0, 0, 2);
    Check.due("6 were left", y.brother(0, 5), 2);
    Check.due("refused", y.grate(0, 0, 2), 3);
    Check.due("hurts nobody", y.brother(0, 5), 2);
    y.days(1);
    Check.due("nor does a day heal", y.brother(0, 5), 2);
  }

  private static void mostKnuckles() {
    Check.says("he hurts a knuckle more (99 at most)");
    GraterOrder x = one(9, 0, 1, 60);
    Inside.setKnuckles(x, 0, 98);
    x.grate(0, 0, 2);
    Check.due("the 99th", x.brother(0, 5), 99);
    x.grate(0, 0, 2);
    Check.due("no more", x.brother(0, 5), 99);
    x.undo();
    x.undo();
    Check.due("undone", x.brother(0, 5), 98);
  }

  private static void take() {
    Check.says("To TAKE a GRATER: 1 he has one; 2 another one has it: he has it");
    int[][] refusals = {{0, 2, 1}, {0, 0, 1}, {0, 1, 1}, {2, 0, 2}, {2, 1, 2}};
    for (int[] row : refusals) {
      GraterOrder y = Check.lived();
      String before = Check.all(y);
      refused("take(" + row[0] + ", " + row[1] + ")", y, before, y.take(row[0], row[1]), row[2]);
    }
    GraterOrder x = Check.lived();
    Check.due("free", x.take(2, 2), 0);
    Check.due("he has it", x.brother(2, 3), 2);
    Check.due("it is his", x.grater(2, 4), 2);
    Check.due("he has one now", x.take(2, 2), 1);
  }

  private static void put() {
    Check.says("To PUT it down: 1 he has none: nobody has it");
    GraterOrder x = Check.lived();
    String before = Check.all(x);
    refused("he has none", x, before, x.put(2), 1);
    Check.due("put", x.put(0), 0);
    Check.due("nobody has it", x.grater(0, 4), -1);
    Check.due("he has none", x.brother(0, 3), -1);
    Check.due("the strokes stay", x.grater(0, 2), 3);
    before = Check.all(x);
    refused("again", x, before, x.put(0), 1);
  }

  private static void swap() {
    Check.says("To SWAP with a BROTHER: 1 they are alike; 2 neither has one: each has what the other one had");
    int[][] refusals = {{0, 0, 1}, {3, 3, 1}, {2, 3, 2}, {3, 2, 2}};
    for (int[] row : refusals) {
      GraterOrder y = Check.with(Check.ORDER + "brother dan 9 0;");
      String before = Check.all(y);
      refused("swap(" + row[0] + ", " + row[1] + ")", y, before, y.swap(row[0], row[1]), row[2]);
    }
    GraterOrder x = Check.with(Check.ORDER + "brother dan 9 0;");
    Check.due("both", x.swap(1, 0), 0);
    Check.due("0", x.brother(0, 3), 1);
    Check.due("1", x.brother(1, 3), 0);
    Check.due("the first has one", x.swap(0, 3), 0);
    Check.due("0", x.brother(0, 3), -1);
    Check.due("3", x.brother(3, 3), 1);
    Check.due("the second has one", x.swap(2, 3), 0);
    Check.due("2", x.brother(2, 3), 1);
    Check.due("3", x.brother(3, 3), -1);
  }

  private static void file() {
    Check.says("To FILE a GRATER: 1 no strokes since it was filed; 2 there are no files: a file less, no strokes since");
    GraterOrder x = Check.lived();
    String before = Check.all(x);
    refused("no strokes", x, before, x.file(2), 1);
    Check.due("filed", x.file(0), 0);
    Check.due("a file less", x.now(3), 1);
    Check.due("no strokes since", x.grater(0, 2), 0);
    Check.due("no strokes since", x.file(0), 1);
    x.grate(0, 0, 0);
    Check.due("1 stroke is enough", x.file(0), 0);
    Check.due("the last file", x.now(3), 0);
    x.grate(0, 0, 0);
    before = Check.all(x);
    Check.due("no files", x.file(0), 2);
    refused("no strokes and no files: the least", x, before, x.file(2), 1);
    GraterOrder y = Check.with("brother a 9 0;grater g 9 9;holds a g;files 0;");
    Check.due("no strokes", y.file(0), 1);
    y.grate(0, 0, 0);
    Check.due("none from the first", y.file(0), 2);
    y.put(0);
    Check.due("whoever has it", y.file(0), 2);
  }

  private static void dayRange() {
    Check.says("A DAY (0 to 399; 400: all are over)");
    GraterOrder x = one(9, 0, 9, 9);
    Check.due("the first", x.now(0), 0);
    for (int i = 0; i < 6; i++) {
      Check.due("60", x.days(60), 60);
    }
    Check.due("39", x.days(39), 39);
    Check.due("the last", x.now(0), 399);
    Check.due("one is left", x.days(2), 1);
    Check.due("over", x.now(0), 400);
    String before = Check.all(x);
    refused("none is left", x, before, x.days(1), 0);
    refused("none is left", x, before, x.days(60), 0);
    refused("none is left to draw", x, before, x.drawn(1, 1), 0);
    Check.due("a day of a book", Check.book(x, "day 1;", 0), 0);
    Check.due("is wrong", x.told(0), 51);
  }

  private static void oddness() {
    Check.says("each BROTHER's ODDNESS is more by how much what he grated today is off 'even'");
    for (int even = 0; even <= 20; even++) {
      GraterOrder x = Check.with("brother a 240 0;brother b 240 0;grater g 9 60;holds a g;even " + even + ";");
      x.grate(0, 1, 1);
      x.days(1);
      Check.due("9 for " + even, x.brother(0, 6), Math.abs(9 - even));
      Check.due("0 for " + even, x.brother(1, 6), even);
      x.days(2);
      Check.due("two days more", x.brother(0, 6), Math.abs(9 - even) + 2 * even);
      Check.due("all", x.now(7), Math.abs(9 - even) + 5 * even);
    }
  }

  private static void mostOddness() {
    Check.says("is off 'even' (9999 at most)");
    GraterOrder x = Check.with("brother a 9 0;brother b 9 0;even 7;");
    Inside.setOddness(x, 0, 9991);
    x.days(1);
    Check.due("9998", x.brother(0, 6), 9998);
    x.days(1);
    Check.due("no more than 9999", x.brother(0, 6), 9999);
    x.days(1);
    Check.due("nor later", x.brother(0, 6), 9999);
    Check.due("the other one's", x.brother(1, 6), 21);
    Check.due("all", x.now(7), 9999 + 21);
    Inside.setOddness(x, 1, 9992);
    x.days(1);
    Check.due("just 9999", x.brother(1, 6), 9999);
  }

  private static void swept() {
    Check.says("the heap is swept: it is the last heap, and empty; nobody has grated anything today. It is the next DAY");
    GraterOrder x = Check.with(Check.ORDER);
    x.grate(0, 0, 1);
    x.grate(1, 1, 1);
    Check.due("heap", x.now(1), 8);
    Check.due("last heap", x.now(2), 0);
    x.days(1);
    Check.due("empty", x.now(1), 0);
    Check.due("last heap", x.now(2), 8);
    Check.due("abel", x.brother(0, 4), 0);
    Check.due("ben", x.brother(1, 4), 0);
    Check.due("the next day", x.now(0), 1);
    x.grate(0, 0, 0);
    Check.due("the last heap stays", x.now(2), 8);
    x.days(2);
    Check.due("an empty one is the last", x.now(2), 0);
    Check.due("the days", x.now(0), 3);
  }

  private static final int[] NO_BROTHER = {-1, 3, 4, 6, 7, 8, 100, Integer.MIN_VALUE, Integer.MAX_VALUE};
  private static final int[] NO_SIDE = {-1, 3, 4, Integer.MIN_VALUE, Integer.MAX_VALUE};

  private static void grateNone() {
    Check.says("A BROTHER GRATES the block of one (his own, too) on a SIDE: 0, or why not; NONE: no such ones");
    GraterOrder x = Check.lived();
    String before = Check.all(x);
    for (int bad : NO_BROTHER) {
      Check.due("brother " + bad, x.grate(bad, 0, 0), -1);
      Check.due("block of " + bad, x.grate(0, bad, 0), -1);
      Check.due("both " + bad, x.grate(bad, bad, 0), -1);
      Check.due("unarmed, block of " + bad, x.grate(2, bad, 0), -1);
    }
    for (int bad : NO_SIDE) {
      Check.due("side " + bad, x.grate(0, 0, bad), -1);
      Check.due("unarmed, side " + bad, x.grate(2, 2, bad), -1);
    }
    Check.text("nothing changes", Check.all(x), before);
    Check.due("his own", x.grate(0, 0, 0), 0);
    Check.due("another's", x.grate(0, 2, 0), 0);
    Check.due("of an empty order", new GraterOrder().grate(0, 0, 0), -1);
  }

  private static void takeNone() {
    Check.says("He TAKES a GRATER: 0, or why not; NONE: no such ones");
    GraterOrder x = Check.lived();
    String before = Check.all(x);
    for (int bad : NO_BROTHER) {
      Check.due("brother " + bad, x.take(bad, 2), -1);
      Check.due("grater " + bad, x.take(2, bad), -1);
      Check.due("armed, grater " + bad, x.take(0, bad), -1);
    }
    Check.text("nothing changes", Check.all(x), before);
    Check.due("of an empty order", new GraterOrder().take(0, 0), -1);
    Check.due("without graters", Check.with("brother a 1 0;").take(0, 0), -1);
    Check.due("without brothers", Check.with("grater g 1 1;").take(0, 0), -1);
  }

  private static void putNone() {
    Check.says("He PUTS it down: 0, or why not; NONE: no such one");
    GraterOrder x = Check.lived();
    String before = Check.all(x);
    for (int bad : NO_BROTHER) {
      Check.due("brother " + bad, x.put(bad), -1);
    }
    Check.text("nothing changes", Check.all(x), before);
    Check.due("of an empty order", new GraterOrder().put(0), -1);
  }

  private static void swapNone() {
    Check.says("He SWAPS with a BROTHER: 0, or why not; NONE: no such ones");
    GraterOrder x = Check.lived();
    String before = Check.all(x);
    for (int bad : NO_BROTHER) {
      Check.due("brother " + bad, x.swap(bad, 0), -1);
      Check.due("with " + bad, x.swap(0, bad), -1);
      Check.due("both alike " + bad, x.swap(bad, bad), -1);
    }
    Check.text("nothing changes", Check.all(x), before);
    Check.due("of an empty order", new GraterOrder().swap(0, 0), -1);
  }

  private static void fileNone() {
    Check.says("A GRATER is FILED: 0, or why not; NONE: no such one");
    GraterOrder x = Check.lived();
    String before = Check.all(x);
    for (int bad : NO_BROTHER) {
      Check.due("grater " + bad, x.file(bad), -1);
    }
    Check.text("nothing changes", Check.all(x), before);
    Check.due("of an empty order", new GraterOrder().file(0), -1);
    Check.due("without graters", Check.with(Check.crowd(7, 0)).file(0), -1);
  }

  private static void daysNone() {
    Check.says("n (1 to 60) DAYS go by: how many did; NONE: not as told");
    GraterOrder x = Check.lived();
    String before = Check.all(x);
    for (int bad : new int[] {0, -1, 61, 62, 400, Integer.MIN_VALUE, Integer.MAX_VALUE}) {
      Check.due("days " + bad, x.days(bad), -1);
    }
    Check.text("nothing changes", Check.all(x), before);
    Check.due("the least", x.days(1), 1);
    Check.due("the most", x.days(60), 60);
    Check.due("now", x.now(0), 62);
    Check.due("of an empty order", new GraterOrder().days(60), 60);
    for (int i = 0; i < 5; i++) {
      x.days(60);
    }
    Check.due("as many as are left", x.days(60), 38);
    Check.due("none is left", x.days(60), 0);
    Check.due("not as told, too", x.days(61), -1);
    Check.due("not as told, too", x.days(0), -1);
  }

  private static void undoWhat() {
    Check.says("The latest of grate(), take(), put(), swap(), file() that was done, days() above 0, drawn() above 0, "
        + "a BOOK that was lived is undone");
    for (int act = 0; act < 8; act++) {
      GraterOrder x = Check.with(Check.ORDER);
      x.grate(0, 0, 0);
      String before = Check.all(x);
      doIt(x, act);
      boolean other = !Check.all(x).equals(before);
      Check.due("act " + act + " was done", other, true);
      Check.due("undo act " + act, x.undo(), 1);
      GraterOrder y = Check.with(Check.ORDER);
      y.grate(0, 0, 0);
      if (act == 7) {
        Check.book(y, "day 4;", 0);
      }
      Check.text("act " + act + " is undone", Check.all(x), Check.all(y));
      Check.due("and the one ahead of it", x.undo(), 0);
      Check.due("nothing is grated", x.brother(0, 0), 40);
    }
    notDone();
  }

  private static void doIt(GraterOrder x, int act) {
    switch (act) {
      case 0: x.grate(1, 0, 2); break;
      case 1: x.take(2, 2); break;
      case 2: x.put(1); break;
      case 3: x.swap(0, 2); break;
      case 4: x.file(0); break;
      case 5: x.days(7); break;
      case 6: x.drawn(5, 77); break;
      default: Check.book(x, "day 4;", 1); break;
    }
  }

  /** What was refused, or changes nothing that is so, is none of them. */
  private static void notDone() {
    GraterOrder x = Check.with(Check.ORDER);
    x.grate(0, 0, 0);
    x.grate(2, 2, 0);
    x.grate(9, 0, 0);
    x.take(0, 2);
    x.put(2);
    x.swap(1, 1);
    x.file(1);
    x.days(0);
    x.days(61);
    x.drawn(0, 5);
    x.drawn(61, 5);
    Check.book(x, "day 4;", 0);
    Check.book(x, "day 4", 1);
    Check.book(x, "day 4;", 2);
    x.end(0);
    Check.order(x, "even 21;");
    Check.sentence(x, "gone");
    x.image(0);
    x.restore(1);
    x.odds(0, 5, 5);
    x.dealt();
    x.tag(0);
    Check.due("grate alone", x.undo(), 0);
    Check.due("whole", x.brother(0, 0), 40);
    Check.due("none more", x.undo(), -1);
    for (int i = 0; i < 6; i++) {
      x.days(60);
    }
    x.days(40);
    Check.due("days() of 0 is none", x.days(1), 0);
    Check.due("drawn() of 0 is none", x.drawn(1, 1), 0);
    Check.due("the 40 days", x.undo(), 6);
    Check.due("day", x.now(0), 360);
  }

  private static void undoMost() {
    Check.says("how many more can be (8 at most are kept)");
    for (int done = 1; done <= 12; done++) {
      GraterOrder x = one(240, 0, 9, 60);
      for (int i = 0; i < done; i++) {
        x.grate(0, 0, 0);
      }
      int kept = Math.min(8, done);
      for (int i = kept - 1; i >= 0; i--) {
        Check.due("undo of " + done, x.undo(), i);
      }
      Check.due("none of " + done, x.undo(), -1);
      Check.due("left of " + done, x.brother(0, 0), 240 - done + kept);
    }
  }

  private static void undoRing() {
    Check.says("(8 at most are kept)");
    GraterOrder x = one(240, 0, 9, 60);
    int left = 240;
    int kept = 0;
    for (int round = 0; round < 12; round++) {
      for (int i = 0; i < 5; i++) {
        x.grate(0, 0, 0);
        left--;
        kept = Math.min(8, kept + 1);
      }
      for (int i = 0; i < 3; i++) {
        kept--;
        left++;
        Check.due("undo in round " + round, x.undo(), kept);
        Check.due("left in round " + round, x.brother(0, 0), left);
      }
    }
  }

  private static void undoNone() {
    Check.says("NONE: none is");
    GraterOrder x = new GraterOrder();
    Check.due("a new object", x.undo(), -1);
    x = Check.with(Check.ORDER);
    String before = Check.all(x);
    refused("a new order", x, before, x.undo(), -1);
    x.grate(0, 0, 0);
    x.undo();
    refused("all undone", x, before, x.undo(), -1);
    x.grate(0, 0, 0);
    x.image(0);
    x.restore(0);
    Check.due("restored", x.undo(), -1);
    x.grate(0, 0, 0);
    Check.order(x, Check.ORDER);
    Check.due("another order", x.undo(), -1);
  }
}
