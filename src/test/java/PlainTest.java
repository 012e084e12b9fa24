/**
 * Sentences of the document that name no bound and no refusal: each has a test of its own here, so
 * that with the *BoundsTest files every word of the document is one that a test goes by.
 */
public final class PlainTest {
  private static final String ORDER =
      "brother abel 40 1;brother ben 12 2;brother cid 9 0;grater rasp 5 3;grater mill 6 10;holds abel rasp;";

  public static void main(String[] args) {
    lifeOfAnObject();
    tokensOfAllTexts();
    linesOfABook();
    saidOfBrothers();
    curlOfAGrater();
    grateOnesOwnOrAnothers();
    aDayGoes();
    strokesOnHisOwn();
    time();
    tag();
    drawn();
    drawnInOrder();
    tapeIsABook();
    Check.finish();
  }

  private static void lifeOfAnObject() {
    Check.says("An object is used for at most 512 calls after it has been made; what later calls answer is free");
    GraterOrder x = Check.with(ORDER); // by less than ten calls
    for (int i = 0; i < 250; i++) {
      Check.due("day " + i, x.days(1), 1);
      Check.due("it is day " + (i + 1), x.now(0), i + 1);
    }
    Check.due("undo at last", x.undo(), 7);
    Check.due("day at last", x.now(0), 249);
  }

  private static void tokensOfAllTexts() {
    Check.says("TOKENS of all texts, with blanks (32, 10) between them or not");
    String[] between = {" ", "\n", "  ", "\n\n", " \n "};
    for (String blank : between) {
      GraterOrder x = new GraterOrder();
      Check.due("order", Check.order(x, apart("brother a 40 1 ; grater g 5 3 ; holds a g ; even 4 ;", blank)), 4);
      Check.due("book", Check.book(x, apart("a grates a coarse ; file g ; day 2 ;", blank), 1), -1);
      Check.due("sentence", Check.sentence(x, apart("not ( left < 3 ) and with g or number = 9", blank)), 5);
      Check.due("said", x.said(-1), 1);
      Check.due("heaps: two blanks are a number", Check.heaps(x, 32 * 256 + 10), 0);
    }
    GraterOrder x = new GraterOrder();
    Check.due("order", Check.order(x, "brother a 40 1;grater g 5 3;holds a g;even 4;"), 4);
    Check.due("book", Check.book(x, "a grates a coarse;file g;day 2;", 1), -1);
    Check.due("sentence", Check.sentence(x, "not(left<3)and with g or number=9"), 5);
    Check.due("said", x.said(-1), 1);
  }

  private static String apart(String text, String blank) {
    return blank + text.replace(" ", blank) + blank;
  }

  private static void linesOfABook() {
    Check.says("BROTHER ( 'grates' BROTHER SIDE | 'takes' GRATER | 'puts' | 'swaps' BROTHER ) | 'file' GRATER | 'day' N");
    GraterOrder x = Check.with(ORDER);
    GraterOrder y = Check.with(ORDER);
    alike(x, y, "abel grates ben slice;", y.grate(0, 1, 2));
    alike(x, y, "abel grates abel coarse;", y.grate(0, 0, 1));
    alike(x, y, "abel grates cid fine;", y.grate(0, 2, 0));
    alike(x, y, "ben takes mill;", y.take(1, 1));
    alike(x, y, "cid swaps abel;", y.swap(2, 0));
    alike(x, y, "cid grates abel coarse;", y.grate(2, 0, 1));
    alike(x, y, "ben puts;", y.put(1));
    alike(x, y, "file rasp;", y.file(0));
    alike(x, y, "day 3;", y.days(3) - 3);
    alike(x, y, "", 0);
    Check.badBook(ORDER, "abel;", 1, 4);
    Check.badBook(ORDER, "abel grates;", 1, 11);
    Check.badBook(ORDER, "abel takes;", 1, 10);
    Check.badBook(ORDER, "abel swaps;", 1, 10);
    Check.badBook(ORDER, "abel file rasp;", 1, 5);
    Check.badBook(ORDER, "abel day 1;", 1, 5);
    Check.badBook(ORDER, "file;", 1, 4);
    Check.badBook(ORDER, "day;", 1, 3);
    Check.badBook(ORDER, "abel grates ben;", 1, 15);
    Check.badBook(ORDER, "abel grates fine;", 1, 12);
    Check.badBook(ORDER, "abel grates ben fine fine;", 1, 21);
    Check.badBook(ORDER, "abel takes rasp fine;", 1, 16);
    Check.badBook(ORDER, "abel puts rasp;", 1, 10);
    Check.badBook(ORDER, "file rasp 1;", 1, 10);
    Check.badBook(ORDER, "day 1 1;", 1, 6);
  }

  /** A BOOK of one LINE, lived by x, does what a call did on y. */
  private static void alike(GraterOrder x, GraterOrder y, String line, int answer) {
    Check.due("the call of '" + line + "'", answer, 0);
    Check.due("'" + line + "'", Check.book(x, line, 1), -1);
    Check.text("behind '" + line + "'", soFar(x), soFar(y));
  }

  private static String soFar(GraterOrder x) {
    StringBuilder all = new StringBuilder();
    for (int what = 0; what < 8; what++) {
      all.append(x.now(what)).append(' ');
      for (int b = 0; b < x.count(0); b++) {
        all.append(x.brother(b, what)).append(',');
      }
    }
    for (int g = 0; g < x.count(1); g++) {
      all.append(x.grater(g, 2)).append('/').append(x.grater(g, 4)).append(' ');
    }
    return all.toString();
  }

  private static void saidOfBrothers() {
    Check.says("It is said of BROTHERS");
    GraterOrder x = Check.with(ORDER);
    Check.sentence(x, "whole");
    Check.due("of each brother, of no grater", x.said(-1), 3);
    for (int k = 0; k < 3; k++) {
      Check.due("said(" + k + ")", x.said(k), k);
    }
    Check.sentence(x, "with rasp or number=2");
    Check.due("of two", x.said(-1), 2);
    Check.due("of him who has it", x.said(0), 0);
    Check.due("of the last", x.said(1), 2);
    x.swap(0, 1);
    Check.due("as it is now", x.said(0), 1);
  }

  private static void curlOfAGrater() {
    Check.says("A CURL of a GRATER on a block: fine: 1, if it BITES more than 0; coarse");
    GraterOrder x = Check.with(ORDER);
    int[][][] curl = {{{1, 4, 12}, {1, 3, 9}, {1, 5, 9}}, {{1, 5, 15}, {1, 4, 12}, {1, 6, 9}}};
    for (int g = 0; g < 2; g++) {
      for (int b = 0; b < 3; b++) {
        for (int side = 0; side < 3; side++) {
          Check.due("curl(" + g + ", " + b + ", " + side + ")", x.curl(g, b, side), curl[g][b][side]);
        }
      }
    }
  }

  private static void grateOnesOwnOrAnothers() {
    Check.says("To GRATE a block (one's own or another's) on a SIDE");
    for (int c = 0; c < 3; c++) {
      for (int side = 0; side < 3; side++) {
        GraterOrder x = Check.with(ORDER);
        int curl = x.curl(0, c, side);
        Check.due("grate(0, " + c + ", " + side + ")", x.grate(0, c, side), 0);
        for (int b = 0; b < 3; b++) {
          Check.due("left of " + b, x.brother(b, 0), x.brother(b, 1) - (b == c ? curl : 0));
          Check.due("today of " + b, x.brother(b, 4), b == 0 ? curl : 0);
          Check.due("from(0, " + b + ")", x.from(0, b), b == c ? curl : 0);
          Check.due("robbed of", x.brother(b, 7), b == c && b != 0 ? curl : 0);
        }
        Check.due("heap", x.now(1), curl);
      }
    }
  }

  private static void aDayGoes() {
    Check.says("400: all are over) goes: each BROTHER's ODDNESS");
    GraterOrder x = Check.with(ORDER + "even 4;");
    x.grate(0, 0, 1);
    x.grate(0, 1, 2);
    Check.due("a day", x.days(1), 1);
    int[] odd = {9, 4, 4}; // 4 and 9 fell by the first one
    for (int b = 0; b < 3; b++) {
      Check.due("oddness of " + b, x.brother(b, 6), odd[b]);
      Check.due("today of " + b, x.brother(b, 4), 0);
    }
    Check.due("the last heap", x.now(2), 13);
    Check.due("the heap", x.now(1), 0);
    Check.due("the day", x.now(0), 1);
    Check.due("strokes stay", x.grater(0, 2), 3);
  }

  private static void strokesOnHisOwn() {
    Check.says("STROKES of a BROTHER on his own block for n: the fewest strokes on whatever SIDES");
    GraterOrder x = Check.with(ORDER + "holds ben mill;");
    // abel: 4 by a coarse one, 12 by a slice; ben: 4 and 12, too, but of his own, harder block
    int[][] due = {{0, 0, 0, 0, 0}, {7, 4, 3, 1, 0}, {16, 2, 0, 1, 1}, {31, 6, 3, 1, 2}, {120, 10, 0, 0, 10}};
    for (int b = 0; b < 2; b++) {
      for (int[] row : due) {
        Check.due("strokes(" + b + ", " + row[0] + ")", x.strokes(b, row[0]), row[1]);
        for (int side = 0; side < 3; side++) {
          Check.due("of side " + side, x.strokesOf(side), row[2 + side]);
        }
      }
    }
    Check.due("nothing is done by it", x.now(6), 61);
  }

  private static void time() {
    Check.says("TIME: what is left of a block by what it was.");
    GraterOrder x = Check.with("brother a 40 0;grater g 4 60;holds a g;");
    int[] above = {1, 9, 4, 7, 3, 1, 2, 3, 1, 1, 0};
    int[] below = {1, 10, 5, 10, 5, 2, 5, 10, 5, 10, 1};
    for (int i = 0; i <= 10; i++) {
      Check.due("left", x.brother(0, 0), 40 - 4 * i);
      Check.due("above, of " + (40 - 4 * i), x.time(0, 0), above[i]);
      Check.due("below, of " + (40 - 4 * i), x.time(0, 1), below[i]);
      Check.due("four fall, or none is left", x.grate(0, 0, 1), i < 10 ? 0 : 2);
    }
  }

  private static void tag() {
    Check.says("TAG of a BROTHER: his NAME, ' has ' and what is left as digits");
    GraterOrder x = Check.with(ORDER);
    Check.text("tag of 0", Check.tag(x, 0), "abel has 40 of 40 by rasp");
    Check.text("tag of 1", Check.tag(x, 1), "ben has 12 of 12");
    Check.text("tag of 2", Check.tag(x, 2), "cid has 9 of 9");
  }

  private static int lots;

  private static int draw(int n) {
    lots = lots * 1103515245 + 12345;
    return (lots >>> 8) % n;
  }

  private static void drawn() {
    Check.says("DRAWN by a seed x: for each draw of n x becomes");
    for (int seed = -6; seed <= 6; seed++) {
      GraterOrder x = Check.with(ORDER);
      lots = seed;
      int lot = draw(4);
      int whose = lot == 3 ? draw(3) : 0;
      int curl = x.curl(0, whose, lot % 3);
      Check.due("a day by " + seed, x.drawn(1, seed), 1);
      Check.due("what fell by " + seed, x.now(2), curl);
      Check.due("from whom by " + seed, x.from(0, whose), curl);
    }
  }

  private static void drawnInOrder() {
    Check.says("each DAY: BROTHER by BROTHER: a draw of 4");
    String order = ORDER + "holds cid mill;draught 5;";
    for (int seed = 1; seed <= 40; seed++) {
      GraterOrder x = Check.with(order);
      GraterOrder y = Check.with(order);
      lots = seed;
      int swept = 0;
      for (int day = 0; day < 3; day++) {
        for (int b = 0; b < 3; b++) {
          int lot = draw(4);
          y.grate(b, lot == 3 ? draw(3) : b, lot % 3);
        }
        swept = draw(12) < 5 ? y.now(1) / 2 : y.now(1);
        y.days(1);
      }
      Check.due("three days by " + seed, x.drawn(3, seed), 3);
      Check.due("swept by " + seed, x.now(2), swept);
      for (int b = 0; b < 3; b++) {
        Check.due("left of " + b + " by " + seed, x.brother(b, 0), y.brother(b, 0));
        Check.due("oddness of " + b + " by " + seed, x.brother(b, 6), y.brother(b, 6));
        Check.due("knuckles of " + b + " by " + seed, x.brother(b, 5), y.brother(b, 5));
      }
    }
  }

  private static void tapeIsABook() {
    Check.says("The tape is a BOOK: it is judged");
    GraterOrder x = Check.with(ORDER);
    Check.feed(x, "abel grates abel coarse;");
    Check.feed(x, "day 1;");
    Check.due("judged", x.book(0), -1);
    Check.due("lines", x.told(1), 2);
    Check.due("the tape is empty", x.count(4), 0);
    Check.due("all stays", x.now(6), 61);
    Check.due("an empty one", x.book(0), -1);
    Check.due("no lines", x.told(1), 0);
  }
}
