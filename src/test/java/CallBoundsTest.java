/**
 * Each sentence of the promises about the tape, what is so, books, sentences and images (1 to 8,
 * 32 to 38) that names a boundary or a refusal has a test of its own here.
 */
public final class CallBoundsTest {
  private static final int[] NO_BROTHER = {-1, 3, 4, 6, 7, 8, 100, Integer.MIN_VALUE, Integer.MAX_VALUE};

  public static void main(String[] args) {
    newObject();
    feedBytes();
    feedFull();
    end();
    orderLines();
    orderTape();
    orderStays();
    fault();
    brother();
    brotherThrows();
    grater();
    now();
    nowNone();
    bookJudged();
    bookLived();
    bookWrong();
    bookFault();
    bookOtherLives();
    toldWhy();
    toldRest();
    toldLatest();
    toldNone();
    sentenceOnes();
    sentenceStays();
    saidWhom();
    saidNone();
    image();
    imageKeeps();
    restore();
    restoreStays();
    restoreNothing();
    count();
    countNone();
    Check.finish();
  }

  private static void newObject() {
    Check.says("An empty ORDER; an empty tape");
    GraterOrder x = new GraterOrder();
    int[] count = {0, 0, 3, 0, 0};
    for (int what = 0; what < 5; what++) {
      Check.due("count " + what, x.count(what), count[what]);
    }
    int[] now = {0, 0, 0, 1, 0, 0, 0, 0};
    for (int what = 0; what < 8; what++) {
      Check.due("now " + what, x.now(what), now[what]);
    }
    Check.due("end(0)", x.end(0), true);
    Check.due("end(1)", x.end(1), false);
    Check.throwsNoSuch(x, 0, 0);
    Check.timeThrowsNoSuch(x, 0, 0);
    Check.due("no grater", x.grater(0, 0), -1);
    Check.due("dealt", x.dealt(), 0);
    Check.due("no sentence", x.said(-1), -1);
    Check.due("no fault", x.fault(), 0);
    Check.due("no image", x.restore(0) || x.restore(1), false);
    Check.due("nothing to undo", x.undo(), -1);
    Check.text("as an order of no lines", Check.all(new GraterOrder()), Check.all(Check.with("")));
  }

  private static void feedBytes() {
    Check.says("Twenty bytes come behind the tape, of each number the highest first: how many it has");
    GraterOrder x = new GraterOrder();
    String text = "brother abel 40 1;even 7;files  9;draught 5;" + Check.blanks(16);
    Check.due("20", x.feed(Check.number(text, 0), Check.number(text, 4), Check.number(text, 8), Check.number(text, 12), Check.number(text, 16)), 20);
    Check.due("40", x.feed(Check.number(text, 20), Check.number(text, 24), Check.number(text, 28), Check.number(text, 32), Check.number(text, 36)), 40);
    Check.due("60", x.feed(Check.number(text, 40), Check.number(text, 44), Check.number(text, 48), Check.number(text, 52), Check.number(text, 56)), 60);
    Check.due("read", x.order(), 4);
    Check.text("its name", Check.tag(x, 0), "abel has 40 of 40");
    Check.due("even", x.count(2), 7);
    Check.due("files", x.now(3), 9);
    Check.due("draught", x.count(3), 5);
    for (int at = 0; at < 20; at++) {
      GraterOrder y = new GraterOrder();
      int[] five = {0x20202020, 0x20202020, 0x20202020, 0x20202020, 0x20202020};
      five[at / 4] = 0x20202020 & ~(255 << 24 - at % 4 * 8) | 200 << 24 - at % 4 * 8;
      y.feed(five[0], five[1], five[2], five[3], five[4]);
      Check.due("a byte of 200 at " + at, y.order(), -1 - at);
    }
    GraterOrder z = new GraterOrder();
    z.feed(0, 0, 0, 0, 0);
    z.end(3);
    Check.due("behind 3", z.feed(0, 0, 0, 0, 0), 23);
  }

  private static void feedFull() {
    Check.says("NONE, and none come, if it would have more than 940");
    GraterOrder x = new GraterOrder();
    for (int i = 1; i <= 46; i++) {
      x.feed(0x20202020, 0x20202020, 0x20202020, 0x20202020, 0x20202020);
    }
    Check.due("940", x.feed(0x20202020, 0x20202020, 0x20202020, 0x20202020, 0x20202020), 940);
    Check.due("960", x.feed(0, 0, 0, 0, 0), -1);
    Check.due("none came", x.count(4), 940);
    Check.due("not so many", x.end(941), false);
    for (int had = 921; had < 940; had += 6) {
      x.end(had);
      Check.due("behind " + had, x.feed(0, 0, 0, 0, 0), -1);
      Check.due("none came behind " + had, x.count(4), had);
      x.end(920);
      Check.due("behind 920", x.feed(0x20202020, 0x20202020, 0x20202020, 0x20202020, 0x20202020), 940);
    }
    x.end(921);
    x.feed(0x65766525, 0, 0, 0, 0);
    x.end(900);
    Check.due("nothing but blanks", x.order(), 0);
    Check.due("room again", x.feed(0, 0, 0, 0, 0), 20);
  }

  private static void end() {
    Check.says("The tape has its first n bytes alone: true; false, if it has not so many, or n is below 0");
    GraterOrder x = new GraterOrder();
    Check.feed(x, "even 1;files 2;?????");
    for (int bad : new int[] {21, 22, 940, 941, Integer.MAX_VALUE, -1, -20, Integer.MIN_VALUE}) {
      Check.due("end(" + bad + ")", x.end(bad), false);
      Check.due("all stay", x.count(4), 20);
    }
    Check.due("as many as it has", x.end(20), true);
    Check.due("all stay", x.count(4), 20);
    Check.due("one less", x.end(19), true);
    Check.due("19", x.count(4), 19);
    Check.due("not so many now", x.end(20), false);
    Check.due("15", x.end(15), true);
    Check.due("the first ones", x.order(), 2);
    Check.due("files", x.now(3), 2);
    Check.feed(x, "even 1;");
    Check.due("none", x.end(0), true);
    Check.due("none", x.count(4), 0);
    Check.due("none again", x.end(0), true);
    Check.due("1 of none", x.end(1), false);
    // what was cut off stands behind the tape no more, not even for a WORD or NUMBER that went on
    Check.feed(x, "goner");
    x.end(4);
    Check.due("a word cut short", x.sentence(), 1);
    Check.feed(x, "left < 10000");
    x.end(10);
    Check.due("a number cut short", x.sentence(), 1);
    Check.feed(x, "even 12");
    x.end(6);
    Check.feed(x, ";");
    Check.due("another byte behind", x.order(), 1);
    Check.due("even 1", x.count(2), 1);
  }

  private static void orderLines() {
    Check.says("is the ORDER now: how many LINES; -1 less the place of a FAULT");
    Check.goodOrder("", 0);
    Check.goodOrder("even 1;", 1);
    Check.goodOrder(Check.crowd(7, 6), 13);
    Check.badOrder("?", 1, 0);
    Check.due("at place 0", Check.order(new GraterOrder(), "?"), -1);
    Check.due("at place 1", Check.order(new GraterOrder(), " ?"), -2);
    Check.due("at place 900", Check.order(new GraterOrder(), Check.blanks(920)), -901);
  }

  private static void orderTape() {
    Check.says("The tape (empty then, here and below)");
    GraterOrder x = new GraterOrder();
    Check.order(x, "even 1;");
    Check.due("a good order", x.count(4), 0);
    Check.order(x, "even 21;");
    Check.due("a bad order", x.count(4), 0);
    Check.order(x, Check.blanks(940));
    Check.due("a long order", x.count(4), 0);
    Check.book(x, "day 1;", 0);
    Check.due("a book judged", x.count(4), 0);
    Check.book(x, "day 1;", 1);
    Check.due("a book lived", x.count(4), 0);
    Check.book(x, "day 0;", 1);
    Check.due("a bad book", x.count(4), 0);
    Check.sentence(x, "gone");
    Check.due("a good sentence", x.count(4), 0);
    Check.sentence(x, "gon");
    Check.due("a bad sentence", x.count(4), 0);
    Check.heaps(x, 0);
    Check.due("heaps", x.count(4), 0);
    Check.feed(x, "123");
    x.heaps();
    Check.due("bad heaps", x.count(4), 0);
    Check.due("an empty order", x.order(), 0);
  }

  private static void orderStays() {
    Check.says("how many LINES; -1 less the place of a FAULT: it stays");
    for (String bad : new String[] {"even 21;", "brother x 1 0;?", "brother x 1 0;brother x 1 0;", "x", Check.blanks(901),
        Check.crowd(7, 0) + "brother z 1 0;"}) {
      GraterOrder x = Check.lived();
      String before = Check.all(x);
      Check.due("'" + bad + "' has a fault", Check.order(x, bad) < 0, true);
      Check.sentence(x, "armed");
      Check.text("all stays", Check.all(x), before);
      Check.due("what can be undone stays", x.undo(), 3);
    }
  }

  private static void fault() {
    Check.says("The kind of the FAULT of the latest order(), book() or sentence() (a book() of -1000 leaves it); "
        + "0 without one and ahead of any");
    GraterOrder x = new GraterOrder();
    Check.due("ahead of any", x.fault(), 0);
    String[] bad = {"?", "even 21;", "holds a g;", Check.crowd(7, 0) + "brother h 1 0;"};
    for (int kind = 1; kind <= 4; kind++) {
      Check.order(x, bad[kind - 1]);
      Check.due("of order", x.fault(), kind);
      Check.due("book(2)", x.book(2), -1000);
      Check.due("book(-1)", x.book(-1), -1000);
      Check.due("leaves it", x.fault(), kind);
    }
    x.heaps();
    x.days(0);
    x.end(-1);
    x.restore(0);
    Check.due("others leave it", x.fault(), 4);
    Check.due("an empty book", x.book(0), -1);
    Check.due("has none", x.fault(), 0);
    Check.book(x, "day 61;", 0);
    Check.due("of book", x.fault(), 2);
    Check.sentence(x, "gone");
    Check.due("a sentence has none", x.fault(), 0);
    Check.sentence(x, "with g");
    Check.due("of sentence", x.fault(), 3);
    Check.due("an empty order", x.order(), 0);
    Check.due("has none", x.fault(), 0);
    Check.due("an empty sentence", x.sentence(), -1);
    Check.due("has one", x.fault(), 1);
    Check.book(x, "day 1;", 1);
    Check.due("a book lived has none", x.fault(), 0);
  }

  private static void brother() {
    Check.says("Of a BROTHER: 0 what is left of his block, 1 what it was, 2 HARD, 3 his GRATER (NONE), 4 what he grated today, "
        + "5 knuckles that he hurt, 6 ODDNESS, 7 what others grated from his block so far");
    GraterOrder x = Check.with("brother a 9 5;brother b 240 0;brother c 9 4;grater g 1 9;grater h 6 60;holds b h;holds c g;");
    int[][] fresh = {{9, 9, 5, -1, 0, 0, 0, 0}, {240, 240, 0, 1, 0, 0, 0, 0}, {9, 9, 4, 0, 0, 0, 0, 0}};
    x.days(1);
    for (int b = 0; b < 3; b++) {
      fresh[b][6] = 3;
      for (int what = 0; what < 8; what++) {
        Check.due("brother(" + b + ", " + what + ")", x.brother(b, what), fresh[b][what]);
      }
    }
    x.grate(1, 0, 2);
    x.grate(2, 0, 0);
    x.grate(1, 1, 1);
    int[][] then = {{5, 9, 5, -1, 0, 0, 3, 4}, {234, 240, 0, 1, 9, 1, 3, 0}, {9, 9, 4, 0, 1, 0, 3, 0}};
    for (int b = 0; b < 3; b++) {
      for (int what = 0; what < 8; what++) {
        Check.due("brother(" + b + ", " + what + ") then", x.brother(b, what), then[b][what]);
      }
    }
    x.days(1);
    Check.due("so far", x.brother(0, 7), 4);
    Check.due("today", x.brother(1, 4), 0);
    GraterOrder y = Check.with(Check.crowd(7, 6) + "holds a p;holds g u;");
    y.grate(0, 6, 0);
    y.grate(6, 5, 0);
    y.grate(6, 6, 0);
    for (int b = 0; b < 7; b++) {
      Check.due("of seven, " + b, y.brother(b, 7), b >= 5 ? 1 : 0);
      Check.due("thief of seven, " + b, y.thief(b), b == 6 ? 0 : b == 5 ? 6 : -1);
    }
  }

  private static void brotherThrows() {
    Check.says("7 what others grated from his block so far. NoSuchElementException: no such ones");
    GraterOrder x = Check.lived();
    String before = Check.all(x);
    for (int bad : NO_BROTHER) {
      Check.throwsNoSuch(x, bad, 0);
      Check.throwsNoSuch(x, bad, 7);
    }
    for (int bad : new int[] {-1, 8, 9, Integer.MIN_VALUE, Integer.MAX_VALUE}) {
      Check.throwsNoSuch(x, 0, bad);
      Check.throwsNoSuch(x, 2, bad);
    }
    Check.text("nothing changes", Check.all(x), before);
    Check.throwsNoSuch(new GraterOrder(), 0, 0);
    Check.throwsNoSuch(Check.with(Check.crowd(7, 6)), 7, 0);
    Check.due("the seventh is one", Check.with(Check.crowd(7, 6)).brother(6, 0), 50);
  }

  private static void grater() {
    Check.says("Of a GRATER: 0 TEETH, 1 EDGE, 2 strokes since it was filed, 3 how much it BITES, 4 who has it (NONE). NONE, too: no such ones");
    GraterOrder x = Check.lived();
    int[][] want = {{5, 3, 3, 4, 0}, {6, 10, 1, 6, 1}, {1, 1, 0, 1, -1}};
    for (int g = 0; g < 3; g++) {
      for (int what = 0; what < 5; what++) {
        Check.due("grater(" + g + ", " + what + ")", x.grater(g, what), want[g][what]);
      }
    }
    for (int bad : NO_BROTHER) {
      Check.due("grater " + bad, x.grater(bad, 0), -1);
      Check.due("grater " + bad, x.grater(bad, 4), -1);
    }
    for (int bad : new int[] {-1, 5, 6, Integer.MIN_VALUE, Integer.MAX_VALUE}) {
      Check.due("what " + bad, x.grater(0, bad), -1);
    }
    Check.due("of an empty order", new GraterOrder().grater(0, 0), -1);
    Check.due("a seventh", Check.with(Check.crowd(7, 6)).grater(6, 0), -1);
  }

  private static void now() {
    Check.says("0 the DAY, 1 the heap, 2 the last heap, 3 files, 4 whose block is gone, 5 who has a GRATER, as bits each, "
        + "6 what is left of all blocks, 7 all ODDNESS");
    StringBuilder order = new StringBuilder("even 1;files 20;");
    for (int b = 0; b < 7; b++) {
      order.append("brother ").append((char) ('a' + b)).append(" 1 0;");
    }
    for (int g = 0; g < 6; g++) {
      order.append("grater ").append((char) ('p' + g)).append(" 9 60;");
    }
    GraterOrder x = Check.with(order.toString());
    Check.due("nobody has one", x.now(5), 0);
    Check.due("7 left", x.now(6), 7);
    for (int g = 0; g < 6; g++) {
      x.take(g + 1, g);
      Check.due("who has one by " + g, x.now(5), (2 << g + 1) - 2);
    }
    for (int b = 6; b >= 0; b--) {
      x.grate(1, b, 0);
      Check.due("gone by " + b, x.now(4), 128 - (1 << b));
      Check.due("left by " + b, x.now(6), b);
      Check.due("heap by " + b, x.now(1), 7 - b);
    }
    x.days(1);
    Check.due("day", x.now(0), 1);
    Check.due("heap", x.now(1), 0);
    Check.due("last heap", x.now(2), 7);
    Check.due("all oddness", x.now(7), 6 + 6);
    x.file(0);
    Check.due("files", x.now(3), 19);
    x.put(6);
    Check.due("the seventh has none", x.now(5), 62);
    x.take(0, 5);
    Check.due("the first has one", x.now(5), 63);
  }

  private static void nowNone() {
    Check.says("7 all ODDNESS. NONE for another what");
    GraterOrder x = Check.lived();
    for (int bad : new int[] {-1, 8, 9, 100, Integer.MIN_VALUE, Integer.MAX_VALUE}) {
      Check.due("now(" + bad + ")", x.now(bad), -1);
    }
    Check.due("now(7)", x.now(7), 11 + 4 + 4);
    Check.due("now(0)", x.now(0), 1);
  }

  private static void bookJudged() {
    Check.says("it is judged, all staying as it is (lives 0)");
    GraterOrder x = Check.lived();
    Check.book(x, "abel grates abel slice;abel grates abel fine;abel puts;cid takes rasp;cid swaps ben;file rasp;day 60;", 0);
    GraterOrder y = Check.lived();
    for (int what = 0; what < 8; what++) {
      Check.due("now(" + what + ")", x.now(what), y.now(what));
      for (int b = 0; b < 3; b++) {
        Check.due("brother(" + b + ", " + what + ")", x.brother(b, what), y.brother(b, what));
      }
    }
    for (int g = 0; g < 3; g++) {
      Check.due("strokes of " + g, x.grater(g, 2), y.grater(g, 2));
      Check.due("holder of " + g, x.grater(g, 4), y.grater(g, 4));
    }
    Check.due("all is well", x.told(0), 0);
    Check.due("what can be undone", x.undo(), y.undo());
  }

  private static void bookLived() {
    Check.says("or lived as far as it is not WRONG (1)");
    GraterOrder x = Check.with(Check.ORDER);
    Check.due("all", Check.book(x, "abel grates abel slice;day 60;abel puts;cid takes rasp;cid swaps ben;file rasp;", 1), -1);
    Check.due("grated", x.brother(0, 0), 28);
    Check.due("days", x.now(0), 60);
    Check.due("swept", x.now(2), 0);
    Check.due("filed", x.now(3), 1);
    Check.due("cid has mill", x.brother(2, 3), 1);
    Check.due("ben has rasp", x.brother(1, 3), 0);
    GraterOrder y = Check.with(Check.ORDER);
    Check.due("as far", Check.book(y, "day 1;abel puts;cid puts;day 5;abel takes rasp;", 1), 2);
    Check.due("day", y.now(0), 1);
    Check.due("abel put it", y.brother(0, 3), -1);
    Check.due("nothing behind", y.grater(0, 4), -1);
    Check.due("undone as one", y.undo(), 0);
    Check.due("day", y.now(0), 0);
    Check.due("abel has it", y.brother(0, 3), 0);
  }

  private static void bookWrong() {
    Check.says("the LINE that is WRONG; NONE: none");
    for (int line = 0; line < 40; line++) {
      GraterOrder x = Check.with("brother a 9 0;");
      Check.due("line " + line, Check.book(x, "day 1;".repeat(line) + "a puts;" + "day 1;".repeat(39 - line), 1), line);
      Check.due("days", x.now(0), line);
    }
    GraterOrder y = Check.with("brother a 9 0;");
    Check.due("none of 40", Check.book(y, "day 1;".repeat(40), 0), -1);
    Check.due("none of 0", Check.book(y, "", 0), -1);
    Check.due("the first of two", Check.book(y, "day 1;a puts;a puts;", 0), 1);
    Check.due("an empty order's", Check.book(new GraterOrder(), "day 1;", 0), -1);
  }

  private static void bookFault() {
    Check.says("-2 less the place of a FAULT");
    GraterOrder x = Check.lived();
    String before = Check.all(x);
    Check.due("at place 0", Check.book(x, "?", 1), -2);
    Check.due("at place 1", Check.book(x, " ?", 1), -3);
    Check.due("behind lines", Check.book(x, "day 1;abel puts;?", 1), -2 - 16);
    Check.due("at place 400", Check.book(x, Check.blanks(401), 1), -402);
    Check.sentence(x, "armed");
    Check.text("nothing is lived, nor told", Check.all(x), before);
    Check.due("nothing more to undo", x.undo(), 3);
  }

  private static void bookOtherLives() {
    Check.says("-1000: another lives (the tape stays)");
    GraterOrder x = Check.lived();
    Check.sentence(x, "with abel");
    Check.feed(x, "day 7;");
    String before = Check.all(x);
    for (int lives : new int[] {2, 3, -1, -2, 1000, -1000, Integer.MIN_VALUE, Integer.MAX_VALUE}) {
      Check.due("book(" + lives + ")", x.book(lives), -1000);
    }
    Check.text("nothing changes, nor is told, nor the fault", Check.all(x), before);
    Check.due("the tape", x.count(4), 6);
    Check.due("is lived", x.book(1), -1);
    Check.due("seven days", x.now(0), 8);
    Check.due("a fault on the tape is not looked for", another("day 0;"), 0);
  }

  private static int another(String text) {
    GraterOrder x = Check.with(Check.ORDER);
    Check.book(x, text, 2);
    return x.fault();
  }

  private static void why(GraterOrder x, String line, int why) {
    Check.due("'" + line + "'", Check.book(x, line, 0), why == 0 ? -1 : 0);
    Check.due("why of '" + line + "'", x.told(0), why);
  }

  private static void toldWhy() {
    Check.says("0 why it was WRONG (0: it was not; 1 to 4 as for grating, 11, 12 taking, 21 putting, 31, 32 swapping, 41, 42 filing; "
        + "51: fewer DAYS are left)");
    GraterOrder x = Check.with("brother a 90 2;brother b 4 0;brother c 1 0;brother d 9 0;grater g 2 60;grater h 9 9;holds a g;files 0;");
    x.grate(0, 1, 0);
    x.grate(0, 2, 0);
    why(x, "a grates a fine;", 0);
    why(x, "b grates a fine;", 1);
    why(x, "a grates c fine;", 2);
    why(x, "a grates b coarse;", 3);
    why(x, "a grates a coarse;", 4);
    why(x, "b takes h;", 0);
    why(x, "a takes h;", 11);
    why(x, "b takes g;", 12);
    why(x, "a puts;", 0);
    why(x, "b puts;", 21);
    why(x, "a swaps b;", 0);
    why(x, "a swaps a;", 31);
    why(x, "b swaps c;", 32);
    why(x, "file h;", 41);
    why(x, "file g;", 42);
    for (int i = 0; i < 6; i++) {
      x.days(60);
    }
    why(x, "day 40;", 0);
    why(x, "day 41;", 51);
    Check.due("none goes by", x.told(2), 360);
    Check.due("nor if it is lived", Check.book(x, "day 41;", 1), 0);
    Check.due("the day", x.now(0), 360);
    x.days(40);
    why(x, "day 1;", 51);
    Check.due("the day", x.told(2), 400);
  }

  private static void toldRest() {
    Check.says("1 LINES that are not, 2 the DAY then, 3 the heap then");
    GraterOrder x = Check.with(Check.ORDER);
    x.days(3);
    x.grate(0, 0, 0);
    Check.book(x, "", 0);
    Check.due("no lines", x.told(1), 0);
    Check.due("the day", x.told(2), 3);
    Check.due("the heap", x.told(3), 1);
    Check.book(x, "abel grates abel coarse;ben grates ben fine;", 0);
    Check.due("two lines", x.told(1), 2);
    Check.due("the day", x.told(2), 3);
    Check.due("the heap", x.told(3), 6);
    Check.book(x, "abel grates abel coarse;day 5;ben grates ben fine;cid puts;day 1;ben puts;", 0);
    Check.due("three lines", x.told(1), 3);
    Check.due("the day then", x.told(2), 8);
    Check.due("the heap then", x.told(3), 1);
    Check.book(x, "cid puts;day 1;", 1);
    Check.due("none", x.told(1), 0);
    Check.due("the day then", x.told(2), 3);
    Check.due("the heap then", x.told(3), 1);
    Check.book(x, "day 1;".repeat(40), 1);
    Check.due("forty", x.told(1), 40);
    Check.due("the day then", x.told(2), 43);
    Check.due("the heap then", x.told(3), 0);
    x.days(1);
    x.undo();
    x.undo();
    Check.due("as it was then", x.told(2), 43);
  }

  private static void toldLatest() {
    Check.says("Of the latest book() that had no FAULT (and was not -1000)");
    GraterOrder x = Check.with(Check.ORDER);
    Check.book(x, "day 7;abel grates abel coarse;cid puts;", 0);
    int[] first = {21, 2, 7, 4};
    for (int what = 0; what < 4; what++) {
      Check.due("told " + what, x.told(what), first[what]);
    }
    Check.book(x, "day 0;", 0);
    Check.book(x, "day 9;?", 1);
    Check.book(x, "day 1;", 5);
    x.end(0);
    x.days(2);
    Check.order(x, "brother z 1 0;");
    for (int what = 0; what < 4; what++) {
      Check.due("told " + what + " still", x.told(what), first[what]);
    }
    Check.book(x, "day 3;", 1);
    int[] second = {0, 1, 3, 0};
    for (int what = 0; what < 4; what++) {
      Check.due("told " + what + " then", x.told(what), second[what]);
    }
    x.book(0);
    Check.due("an empty one is the latest", x.told(1), 0);
  }

  private static void toldNone() {
    Check.says("3 the heap then. NONE: another what, or ahead of any");
    GraterOrder x = Check.with(Check.ORDER);
    for (int what = -1; what < 5; what++) {
      Check.due("ahead of any, " + what, x.told(what), -1);
    }
    Check.book(x, "day 0;", 0);
    Check.book(x, "day 1;", 5);
    x.end(0);
    for (int what = 0; what < 4; what++) {
      Check.due("a fault and -1000 are none, " + what, x.told(what), -1);
    }
    Check.book(x, "cid puts;", 0);
    Check.due("told", x.told(0), 21);
    for (int bad : new int[] {-1, 4, 5, Integer.MIN_VALUE, Integer.MAX_VALUE}) {
      Check.due("told(" + bad + ")", x.told(bad), -1);
    }
  }

  private static void sentenceOnes() {
    Check.says("The tape is the SENTENCE now: how many ONES (each not, bracket and other one)");
    Check.goodSentence(Check.ORDER, "gone", 1);
    Check.goodSentence(Check.ORDER, "not gone", 2);
    Check.goodSentence(Check.ORDER, "(gone)", 2);
    Check.goodSentence(Check.ORDER, "left < 5", 1);
    Check.goodSentence(Check.ORDER, "with rasp", 1);
    Check.goodSentence(Check.ORDER, "not (not with rasp and whole) or hurt = 0", 6);
    Check.goodSentence("", "gone", 1);
  }

  private static void sentenceStays() {
    Check.says("(each not, bracket and other one); -1 less the place of a FAULT: it stays");
    GraterOrder x = Check.with(Check.ORDER);
    Check.due("at place 0", Check.sentence(x, "?"), -1);
    Check.due("none yet", x.said(-1), -1);
    Check.sentence(x, "number > 0");
    for (String bad : new String[] {"", "?", "gone or", "gone and with abel", "((((((((gone", "not gone ;", Check.blanks(201)}) {
      Check.due("'" + bad + "' has a fault", Check.sentence(x, bad) < 0, true);
      Check.due("of how many still", x.said(-1), 2);
      Check.due("of whom still", x.said(0), 1);
    }
    Check.due("at place 200", Check.sentence(x, "gone" + Check.blanks(197)), -201);
    Check.due("another one", Check.sentence(x, "number < 1"), 1);
    Check.due("of whom now", x.said(0), 0);
  }

  private static void saidWhom() {
    Check.says("BROTHERS of whom it may be said: how many (k NONE), or the k-th");
    GraterOrder x = Check.with(Check.crowd(7, 0));
    Check.sentence(x, "number = 1 or number = 3 or number = 6");
    Check.due("how many", x.said(-1), 3);
    Check.due("the first", x.said(0), 1);
    Check.due("the second", x.said(1), 3);
    Check.due("the third", x.said(2), 6);
    Check.due("no more", x.said(3), -1);
    Check.sentence(x, "whole");
    Check.due("all", x.said(-1), 7);
    for (int b = 0; b < 7; b++) {
      Check.due("all, " + b, x.said(b), b);
    }
    Check.due("no more", x.said(7), -1);
    Check.sentence(x, "gone");
    Check.due("nobody", x.said(-1), 0);
    Check.due("nobody", x.said(0), -1);
  }

  private static void saidNone() {
    Check.says("NONE: there is no SENTENCE, none such");
    GraterOrder x = Check.with(Check.ORDER);
    for (int k = -2; k < 4; k++) {
      Check.due("no sentence, " + k, x.said(k), -1);
    }
    Check.sentence(x, "armed");
    for (int bad : new int[] {-2, 2, 3, 7, Integer.MIN_VALUE, Integer.MAX_VALUE}) {
      Check.due("none such, " + bad, x.said(bad), -1);
    }
    Check.due("two", x.said(-1), 2);
    Check.order(x, Check.ORDER);
    Check.due("no sentence in a new order", x.said(-1), -1);
    GraterOrder y = new GraterOrder();
    Check.sentence(y, "whole");
    Check.due("of no brothers", y.said(-1), 0);
    Check.due("of no brothers", y.said(0), -1);
  }

  private static void image() {
    Check.says("are kept in place k (0, 1): true; false: no such one");
    GraterOrder x = Check.lived();
    for (int bad : new int[] {-1, 2, 3, Integer.MIN_VALUE, Integer.MAX_VALUE}) {
      Check.due("image(" + bad + ")", x.image(bad), false);
    }
    Check.due("nothing is kept", x.restore(0) || x.restore(1), false);
    String before = Check.all(x);
    Check.due("image(0)", x.image(0), true);
    Check.due("image(1)", x.image(1), true);
    Check.text("nothing changes", Check.all(x), before);
    Check.due("what can be undone stays", x.undo(), 3);
  }

  private static void imageKeeps() {
    Check.says("ORDER, all that is so and the SENTENCE are kept in place k");
    GraterOrder x = Check.lived();
    x.image(0);
    String first = Check.all(x);
    x.drawn(20, 9);
    Check.sentence(x, "gone or number = 2");
    x.image(1);
    String second = Check.all(x);
    Check.due("they differ", first.equals(second), false);
    x.days(3);
    x.restore(0);
    Check.text("the first", Check.all(x), first);
    x.restore(1);
    Check.text("the second", Check.all(x), second);
    x.image(0);
  }

  private static void restore() {
    Check.says("They are as kept in place k");
    GraterOrder x = Check.with(Check.ORDER);
    x.grate(0, 0, 2);
    x.image(0);
    Check.order(x, Check.crowd(7, 6) + "even 9;files 8;draught 7;");
    Check.sentence(x, "number = 6");
    x.image(1);
    x.restore(0);
    Check.due("brothers", x.count(0), 3);
    Check.due("graters", x.count(1), 3);
    Check.due("even", x.count(2), 4);
    Check.due("draught", x.count(3), 6);
    Check.due("left", x.brother(0, 0), 28);
    Check.due("files", x.now(3), 2);
    Check.due("no sentence", x.said(-1), -1);
    Check.text("names", Check.tag(x, 0), "abel has 28 of 40 by rasp");
    x.grate(0, 0, 0);
    x.restore(0);
    Check.due("as often as one likes", x.brother(0, 0), 28);
    x.restore(1);
    Check.due("brothers", x.count(0), 7);
    Check.due("graters", x.count(1), 6);
    Check.due("even", x.count(2), 9);
    Check.due("draught", x.count(3), 7);
    Check.due("files", x.now(3), 8);
    Check.due("sentence", x.said(0), 6);
    x.restore(0);
    x.image(1);
    x.restore(1);
    Check.due("kept anew", x.count(0), 3);
    x.restore(0);
    Check.due("the other place stays", x.brother(0, 0), 28);
  }

  private static void restoreStays() {
    Check.says("(the tape, and what other calls told last, stays; nothing can be undone)");
    GraterOrder x = new GraterOrder();
    x.image(1);
    Check.order(x, Check.ORDER);
    x.strokes(0, 13);
    Check.heaps(x, 12);
    x.dealt();
    x.tag(1);
    Check.book(x, "day 2;cid puts;", 1);
    x.grate(0, 0, 0);
    Check.sentence(x, "with abel");
    Check.feed(x, "day 1;");
    Check.due("restored", x.restore(1), true);
    Check.due("no brothers", x.count(0), 0);
    Check.due("tape", x.count(4), 6);
    Check.due("fault", x.fault(), 3);
    int[] strokes = {1, 0, 1};
    for (int side = 0; side < 3; side++) {
      Check.due("strokes " + side, x.strokesOf(side), strokes[side]);
    }
    Check.due("heap of abel", x.heapOf(0), 0);
    Check.due("heap of ben", x.heapOf(1), 3);
    Check.due("look", x.look(), 0);
    Check.due("dealt to ben", x.dealtOf(1), 1);
    Check.due("tag", x.byteAt(0), 'b');
    int[] told = {21, 1, 2, 0};
    for (int what = 0; what < 4; what++) {
      Check.due("told " + what, x.told(what), told[what]);
    }
    Check.due("nothing can be undone", x.undo(), -1);
    Check.due("the tape is a book", x.book(1), -1);
    Check.due("which can be undone", x.undo(), 0);
  }

  private static void restoreNothing() {
    Check.says("true; false: no such one, or nothing is kept there");
    GraterOrder x = Check.lived();
    x.image(1);
    x.grate(0, 0, 0);
    String before = Check.all(x);
    for (int bad : new int[] {0, -1, 2, 3, Integer.MIN_VALUE, Integer.MAX_VALUE}) {
      Check.due("restore(" + bad + ")", x.restore(bad), false);
    }
    Check.text("nothing changes", Check.all(x), before);
    Check.due("what can be undone stays", x.undo(), 4);
    Check.due("the one that is kept", x.restore(1), true);
  }

  private static void count() {
    Check.says("0 BROTHERS, 1 GRATERS, 2 'even', 3 'draught', 4 bytes of the tape");
    for (int brothers = 0; brothers <= 7; brothers++) {
      for (int graters = 0; graters <= 6; graters++) {
        GraterOrder x = Check.with(Check.crowd(brothers, graters) + "even " + (brothers + graters) + ";draught " + graters + ";");
        Check.feed(x, Check.blanks(3 * brothers));
        Check.due("brothers", x.count(0), brothers);
        Check.due("graters", x.count(1), graters);
        Check.due("even", x.count(2), brothers + graters);
        Check.due("draught", x.count(3), graters);
        Check.due("tape", x.count(4), 3 * brothers);
      }
    }
  }

  private static void countNone() {
    Check.says("4 bytes of the tape. NONE for another what");
    GraterOrder x = Check.lived();
    for (int bad : new int[] {-1, 5, 6, 100, Integer.MIN_VALUE, Integer.MAX_VALUE}) {
      Check.due("count(" + bad + ")", x.count(bad), -1);
    }
  }
}
