/** Promises 4 (order) and 5 (fault): the text of an ORDER and its FAULTS. */
public final class OrderTest {
  public static void main(String[] args) {
    goodOrders();
    tokens();
    lines();
    numbers();
    names();
    tooMany();
    tooLong();
    whatStays();
    faultOfOthers();
    Check.finish();
  }

  private static void good(String text, int lines) {
    GraterOrder x = new GraterOrder();
    Check.due("order '" + text + "'", Check.order(x, text), lines);
    Check.due("fault of '" + text + "'", x.fault(), 0);
    Check.due("tape behind '" + text + "'", x.count(4), 0);
  }

  private static void bad(String text, int kind, int place) {
    GraterOrder x = new GraterOrder();
    Check.due("order '" + text + "'", Check.order(x, text), -1 - place);
    Check.due("fault of '" + text + "'", x.fault(), kind);
    Check.due("tape behind '" + text + "'", x.count(4), 0);
    Check.due("brothers behind '" + text + "'", x.count(0), 0);
  }

  private static void goodOrders() {
    good("", 0);
    good(" \n ", 0);
    good(Check.ORDER, 11);
    good("brother a 1 0;", 1);
    good("brother\na\n240\n5\n;\n", 1);
    good("brother a 001 0;brother b 240 5;grater g 9 60;grater h 1 1;", 4);
    good("even 0;files 0;draught 0;", 3);
    good("even 20;files 20;draught 12;", 3);
    good(Check.crowd(7, 6), 13);
    good("brother abcdefg 1 0;", 1);
    good("even 07;", 1);
  }

  private static void tokens() {
    bad("?", 1, 0);
    bad("even 1;\t", 1, 7);
    bad("even 1;A", 1, 7);
    bad("even 1;.", 1, 7);
    bad("even 1;\0", 1, 7);
    bad("even 0001;", 1, 5);
    bad("even 1a;", 1, 5);
    bad("even1;", 1, 0);
    bad("brother abcdefgh 1 0;", 1, 8);
    bad("brother a1 1 0;", 1, 8);
    bad("brother" + (char) 228 + " 1 0;", 1, 7);
  }

  private static void lines() {
    bad(";", 1, 0);
    bad("even 1;;", 1, 7);
    bad("a", 1, 0);
    bad("7", 1, 0);
    bad("even", 1, 4);
    bad("even  ", 1, 6);
    bad("even 1", 1, 6);
    bad("even 1 even 2;", 1, 7);
    bad("even a;", 1, 5);
    bad("even ;", 1, 5);
    bad("even even;", 1, 5);
    bad("day 1;", 1, 0);
    bad("file g;", 1, 0);
    bad("brother", 1, 7);
    bad("brother a", 1, 9);
    bad("brother a 1", 1, 11);
    bad("brother a 1;", 1, 11);
    bad("brother a 1 0", 1, 13);
    bad("brother a 1 0 0;", 1, 14);
    bad("brother 1 1 0;", 1, 8);
    bad("grater g 1 (1);", 1, 11);
    bad("brother a 1 0;grater g 1 1;holds a g g;", 1, 37);
    bad("brother a 1 0;holds a;", 1, 21);
    bad("holds;", 1, 5);
    for (String word : Model.WORDS) {
      bad("brother " + word + " 1 0;", 1, 8);
      bad("grater " + word + " 1 1;", 1, 7);
      bad("holds " + word + " g;", 1, 6);
    }
  }

  private static void numbers() {
    bad("brother a 0 0;", 2, 10);
    bad("brother a 241 0;", 2, 10);
    bad("brother a 1 6;", 2, 12);
    bad("grater g 0 1;", 2, 9);
    bad("grater g 10 1;", 2, 9);
    bad("grater g 1 0;", 2, 11);
    bad("grater g 1 61;", 2, 11);
    bad("even 21;", 2, 5);
    bad("files 21;", 2, 6);
    bad("draught 13;", 2, 8);
    bad("even 999 x", 2, 5);
  }

  private static void names() {
    bad("brother a 1 0;brother a 1 0;", 3, 22);
    bad("brother a 1 0;grater a 1 1;", 3, 21);
    bad("grater a 1 1;brother a 1 0;", 3, 21);
    bad("grater a 1 1;grater a 1 1;", 3, 20);
    bad("holds a g;", 3, 6);
    bad("holds a g;brother a 1 0;grater g 1 1;", 3, 6);
    bad("brother a 1 0;holds a g;", 3, 22);
    bad("brother a 1 0;grater g 1 1;holds g a;", 3, 33);
    bad("brother a 1 0;grater g 1 1;holds a a;", 3, 35);
    String two = "brother a 1 0;brother b 1 0;grater g 1 1;grater h 1 1;holds a g;";
    good(two, 5);
    good(two + "holds b h;", 6);
    bad(two + "holds a h;", 3, two.length() + 6);
    bad(two + "holds b g;", 3, two.length() + 8);
    bad("even 1;even 1;", 3, 7);
    bad("files 1;files x;", 3, 8);
    bad("draught 1;even 2;draught", 3, 17);
  }

  private static void tooMany() {
    String brothers = Check.crowd(7, 0);
    bad(brothers + "brother h 1 0;", 4, brothers.length());
    bad(brothers + "brother a 999 9", 4, brothers.length());
    String graters = Check.crowd(0, 6);
    bad(graters + " grater z 1 1;", 4, graters.length() + 1);
    good(brothers + graters, 13);
  }

  private static void tooLong() {
    good("even 1;" + Check.blanks(893), 1);
    bad("even 1;" + Check.blanks(894), 1, 900);
    bad("even 21;" + Check.blanks(912), 2, 5);
    bad(Check.blanks(893) + "even 1;x", 1, 900);
    bad(Check.blanks(894) + "even 1;", 1, 900);
    bad(Check.blanks(893) + "even 20", 1, 900);
    bad(Check.blanks(893) + "even 999", 2, 898);
    bad(Check.blanks(899) + "?", 1, 899);
    bad(Check.blanks(899) + "even", 1, 899 + 1);
    bad(Check.blanks(899) + "eventual", 1, 899);
    bad(Check.blanks(900) + "?", 1, 900);
    bad(Check.blanks(905) + "?", 1, 900);
    bad(Check.blanks(896) + "even 99", 1, 900);
    bad(Check.blanks(894) + "even 9999", 1, 899);
    bad("even" + Check.blanks(896), 1, 900);
    bad("even" + Check.blanks(936), 1, 900);
  }

  private static void whatStays() {
    GraterOrder x = Check.with(Check.ORDER);
    x.grate(0, 0, 0);
    Check.due("a bad order", Check.order(x, "even 21;"), -6);
    Check.due("its fault", x.fault(), 2);
    Check.due("the order stays", x.count(0), 3);
    Check.due("what is so stays", x.brother(0, 0), 39);
    Check.due("an act can still be undone", x.undo(), 0);
    x.grate(0, 0, 2);
    x.days(3);
    Check.sentence(x, "gone");
    Check.due("the same order anew", Check.order(x, Check.ORDER), 11);
    Check.due("no fault", x.fault(), 0);
    Check.due("day 0", x.now(0), 0);
    Check.due("no heap", x.now(1), 0);
    Check.due("no last heap", x.now(2), 0);
    Check.due("no oddness", x.now(7), 0);
    Check.due("whole", x.brother(0, 0), 40);
    Check.due("no strokes", x.grater(0, 2), 0);
    Check.due("nothing grated", x.from(0, 0), 0);
    Check.due("no sentence", x.said(-1), -1);
    Check.due("nothing to undo", x.undo(), -1);
    Check.due("an order of nothing", x.order(), 0);
    Check.due("without brothers", x.count(0), 0);
    Check.due("with 3 for even", x.count(2), 3);
  }

  private static void faultOfOthers() {
    GraterOrder x = Check.with(Check.ORDER);
    Check.order(x, "even 21;");
    Check.due("of order", x.fault(), 2);
    Check.due("book(2)", Check.book(x, "day 1;", 2), -1000);
    Check.due("leaves it", x.fault(), 2);
    Check.due("book(0)", x.book(0), -1);
    Check.due("has none", x.fault(), 0);
    Check.due("a bad sentence", Check.sentence(x, "with nobody"), -6);
    Check.due("of sentence", x.fault(), 3);
    Check.heaps(x, 1);
    x.days(70);
    Check.due("others leave it", x.fault(), 3);
    Check.due("a good sentence", Check.sentence(x, "gone"), 1);
    Check.due("none of it", x.fault(), 0);
    Check.due("a bad book", Check.book(x, "days;", 0), -2);
    Check.due("of book", x.fault(), 3);
    x.restore(0);
    Check.due("restore leaves it", x.fault(), 3);
  }
}
