/** Promises 32 (book) and 33 (told). */
public final class BookTest {
  public static void main(String[] args) {
    judged();
    lived();
    why();
    faults();
    tooMany();
    tooLong();
    otherLives();
    Check.finish();
  }

  private static void told(String what, GraterOrder x, int... want) {
    for (int i = 0; i < want.length; i++) {
      Check.due(what + ": told(" + i + ")", x.told(i), want[i]);
    }
    Check.due("told(4)", x.told(4), -1);
    Check.due("told(-1)", x.told(-1), -1);
  }

  private static void judged() {
    GraterOrder x = Check.with(Check.ORDER);
    told("ahead of any", x, -1, -1, -1, -1);
    Check.due("nothing", Check.book(x, "", 0), -1);
    told("nothing", x, 0, 0, 0, 0);
    Check.due("all well", Check.book(x, "abel grates abel coarse; ben puts;\nday 2;cid takes mill;cid grates ben slice;", 0), -1);
    told("all well", x, 0, 5, 2, 12);
    Check.due("all stays", x.now(0), 0);
    Check.due("all stays", x.now(1), 0);
    Check.due("all stays", x.brother(0, 0), 40);
    Check.due("all stays", x.brother(1, 3), 1);
    Check.due("a line is wrong", Check.book(x, "abel grates ben coarse;day 1;abel grates abel fine;cid puts;day 5;", 0), 3);
    told("a line is wrong", x, 21, 3, 1, 1);
    Check.due("the first is wrong", Check.book(x, "cid puts;", 0), 0);
    told("the first is wrong", x, 21, 0, 0, 0);
    Check.due("tape", x.count(4), 0);
    Check.due("nothing to undo", x.undo(), -1);
  }

  private static void lived() {
    GraterOrder x = Check.with(Check.ORDER);
    Check.due("all well", Check.book(x, "abel grates abel coarse;day 3;abel swaps cid;cid grates cid fine;file rasp;", 1), -1);
    told("all well", x, 0, 5, 3, 1);
    Check.due("day", x.now(0), 3);
    Check.due("heap", x.now(1), 1);
    Check.due("block", x.brother(0, 0), 36);
    Check.due("grater", x.brother(2, 3), 0);
    Check.due("files", x.now(3), 1);
    Check.due("as far as it is not wrong", Check.book(x, "day 1;abel puts;day 1;", 1), 1);
    told("as far", x, 21, 1, 4, 0);
    Check.due("day", x.now(0), 4);
    Check.due("undo", x.undo(), 1);
    Check.due("day", x.now(0), 3);
    Check.due("undo", x.undo(), 0);
    Check.due("block", x.brother(0, 0), 40);
    told("what was told stays", x, 21, 1, 4, 0);
  }

  private static void wrong(GraterOrder x, String line, int why) {
    Check.due("'" + line + "'", Check.book(x, "day 1;" + line, 0), why == 0 ? -1 : 1);
    Check.due("why of '" + line + "'", x.told(0), why);
    Check.due("fault of '" + line + "'", x.fault(), 0);
  }

  private static void why() {
    GraterOrder x = Check.with(Check.ORDER + "brother dan 5 5;brother eve 9 0;");
    x.grate(0, 2, 1);
    x.grate(1, 3, 0);
    x.grate(1, 3, 0);
    wrong(x, "abel grates abel slice;", 0);
    wrong(x, "cid grates abel fine;", 1);
    wrong(x, "abel grates cid fine;", 2);
    wrong(x, "abel grates dan coarse;", 3);
    Check.due("a worn or weak one", Check.book(x, "eve takes zest;eve grates abel fine;eve grates abel fine;", 0), 2);
    Check.due("bites no more", x.told(0), 4);
  }

  private static void faults() {
    GraterOrder x = Check.with(Check.ORDER);
    bad(x, "day 1", 1, 5);
    bad(x, "day;", 1, 3);
    bad(x, "day 0;", 2, 4);
    bad(x, "day 61;", 2, 4);
    bad(x, "file;", 1, 4);
    bad(x, "file abel;", 3, 5);
    bad(x, "file nothing;", 3, 5);
    bad(x, "file fine;", 1, 5);
    bad(x, "rasp puts;", 3, 0);
    bad(x, "nobody puts;", 3, 0);
    bad(x, "grates abel fine;", 1, 0);
    bad(x, "brother abel 1 1;", 1, 0);
    bad(x, "even 1;", 1, 0);
    bad(x, "3 puts;", 1, 0);
    bad(x, "abel;", 1, 4);
    bad(x, "abel", 1, 4);
    bad(x, "abel ben;", 1, 5);
    bad(x, "abel day 1;", 1, 5);
    bad(x, "abel puts rasp;", 1, 10);
    bad(x, "abel takes;", 1, 10);
    bad(x, "abel takes ben;", 3, 11);
    bad(x, "abel takes what;", 3, 11);
    bad(x, "abel takes 1;", 1, 11);
    bad(x, "abel swaps rasp;", 3, 11);
    bad(x, "abel swaps;", 1, 10);
    bad(x, "abel grates rasp fine;", 3, 12);
    bad(x, "abel grates fine;", 1, 12);
    bad(x, "abel grates ben;", 1, 15);
    bad(x, "abel grates ben rasp;", 1, 16);
    bad(x, "abel grates ben even;", 1, 16);
    bad(x, "abel grates ben fine", 1, 20);
    bad(x, ";", 1, 0);
    bad(x, "day 1;?", 1, 6);
    bad(x, "cid puts;day 99;", 2, 13);
    Check.due("nothing was lived", x.now(0), 0);
    Check.due("nothing to undo", x.undo(), -1);
    told("ahead of any", x, -1, -1, -1, -1);
    Check.book(x, "day 7;", 0);
    bad(x, "day 0;", 2, 4);
    told("of the latest without a fault", x, 0, 1, 7, 0);
  }

  private static void bad(GraterOrder x, String text, int kind, int place) {
    Check.due("book '" + text + "'", Check.book(x, text, 1), -2 - place);
    Check.due("fault of '" + text + "'", x.fault(), kind);
    Check.due("tape behind '" + text + "'", x.count(4), 0);
  }

  private static void tooMany() {
    GraterOrder x = Check.with("brother a 9 0;");
    String forty = "day 1;".repeat(40);
    Check.due("40 lines", Check.book(x, forty, 0), -1);
    Check.due("40 lines", x.told(1), 40);
    bad(x, forty + "day 1;", 4, 240);
    bad(x, forty + " a puts;", 4, 241);
    bad(x, forty + "file x;", 4, 240);
    bad(x, forty + "b puts;", 3, 240);
    bad(x, forty + ";", 1, 240);
    bad(x, forty + "even", 1, 240);
    bad(x, forty + "1", 1, 240);
    bad(x, forty + "?", 1, 240);
  }

  private static void tooLong() {
    GraterOrder x = Check.with("brother a 9 0;");
    Check.due("400 bytes", Check.book(x, "day 1;" + Check.blanks(394), 0), -1);
    bad(x, "day 1;" + Check.blanks(395), 1, 400);
    bad(x, "day 0;" + Check.blanks(395), 2, 4);
    bad(x, Check.blanks(397) + "day 1;", 1, 400);
    bad(x, Check.blanks(395) + "day 99;", 2, 399);
    bad(x, Check.blanks(396) + "day 99;", 1, 400);
    bad(x, Check.blanks(399) + "nobody;", 3, 399);
    bad(x, "day 1;" + Check.blanks(900), 1, 400);
  }

  private static void otherLives() {
    GraterOrder x = Check.with(Check.ORDER);
    x.feed(0x64617920, 0x313b2020, 0x20202020, 0x20202020, 0x20202020);
    for (int lives : new int[] {2, -1, 1000, Integer.MIN_VALUE}) {
      Check.due("book(" + lives + ")", x.book(lives), -1000);
    }
    Check.due("the tape stays", x.count(4), 20);
    told("ahead of any", x, -1, -1, -1, -1);
    Check.due("book(1)", x.book(1), -1);
    Check.due("lived", x.now(0), 1);
    GraterOrder y = Check.with("brother a 9 0;grater g 1 1;grater h 1 1;brother b 9 3;holds a g;files 1;");
    y.grate(0, 0, 0);
    wrong(y, "a grates b fine;", 4);
    wrong(y, "a takes h;", 11);
    wrong(y, "b takes g;", 12);
    wrong(y, "b puts;", 21);
    wrong(y, "a swaps a;", 31);
    wrong(y, "file h;", 41);
    wrong(y, "file g;", 0);
    y.file(0);
    y.grate(0, 0, 0);
    wrong(y, "file g;", 42);
    y.put(0);
    wrong(y, "a swaps b;", 32);
    for (int i = 0; i < 6; i++) {
      y.days(60);
    }
    wrong(y, "day 39;", 0);
    wrong(y, "day 40;", 51);
    Check.due("the day then", y.told(2), 361);
  }
}
