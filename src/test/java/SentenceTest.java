/** Promises 34 (sentence) and 35 (said). */
public final class SentenceTest {
  public static void main(String[] args) {
    kinds();
    joined();
    said();
    faults();
    limits();
    tooLong();
    whatStays();
    Check.finish();
  }

  private static GraterOrder lived() {
    // abel: 27 left, 17 today, robbed; ben: 2 left, robbed; cid: whole, armed; dan: whole, unarmed
    GraterOrder x = Check.with(Check.ORDER + "brother dan 9 0;");
    x.grate(0, 0, 2);
    x.grate(1, 0, 0);
    x.grate(1, 1, 0);
    x.grate(0, 1, 1);
    x.grate(0, 1, 1);
    x.grate(1, 1, 1);
    x.take(2, 2);
    return x;
  }

  private static void means(GraterOrder x, String text, int bits) {
    int ones = Check.sentence(x, text);
    Check.due("'" + text + "' is one", ones > 0, true);
    Check.due("'" + text + "' of how many", x.said(-1), Integer.bitCount(bits));
    int k = 0;
    for (int b = 0; b < 4; b++) {
      if ((bits & 1 << b) != 0) {
        Check.due("'" + text + "' of the " + k + "th", x.said(k), b);
        k++;
      }
    }
    Check.due("'" + text + "' of no more", x.said(k), -1);
  }

  private static void kinds() {
    GraterOrder x = lived();
    Check.due("left of abel", x.brother(0, 0), 27);
    Check.due("left of ben", x.brother(1, 0), 2);
    means(x, "whole", 12);
    means(x, "gone", 0);
    x.grate(1, 1, 0);
    x.grate(1, 1, 0);
    means(x, "gone", 2);
    means(x, "armed", 7);
    means(x, "robbed", 3);
    means(x, "with rasp", 1);
    means(x, "with zest", 4);
    means(x, "left < 9", 6);
    means(x, "left = 9", 8);
    means(x, "left > 9", 1);
    means(x, "left>0", 13);
    means(x, "today = 0", 12);
    means(x, "today > 16", 1);
    means(x, "hurt = 0", 15);
    x.grate(0, 3, 2);
    means(x, "hurt > 0", 1);
    means(x, "number < 2", 3);
    means(x, "number = 3", 8);
    means(x, "number > 999", 0);
    x.days(1);
    means(x, "today = 0", 15);
  }

  private static void joined() {
    GraterOrder x = lived();
    means(x, "not armed", 8);
    means(x, "not not armed", 7);
    means(x, "armed and whole", 4);
    means(x, "robbed or whole", 15);
    means(x, "number = 0 or number = 1 and number = 2", 1);
    means(x, "(number = 0 or number = 1) and number = 2", 0);
    means(x, "number = 1 and number = 2 or number = 0", 1);
    means(x, "not number = 0 and number < 2", 2);
    means(x, "not (number = 0 and number < 2)", 14);
    means(x, "not(number=0)and not number=1 or with rasp", 13);
    means(x, "((whole))", 12);
    means(x, "number < 3 and number > 0 and not number = 1", 4);
    means(x, "number = 0 or number = 2 or number = 3", 13);
    means(x, "armed and (number = 0 or (number = 1 or whole))", 7);
  }

  private static void count(String text, int ones) {
    GraterOrder x = Check.with(Check.ORDER);
    Check.due("ones of '" + text + "'", Check.sentence(x, text), ones);
    Check.due("fault of '" + text + "'", x.fault(), 0);
    Check.due("tape behind '" + text + "'", x.count(4), 0);
  }

  private static void said() {
    GraterOrder x = new GraterOrder();
    Check.due("no sentence", x.said(-1), -1);
    Check.due("no sentence", x.said(0), -1);
    Check.due("a sentence of nobody", Check.sentence(x, "gone"), 1);
    Check.due("of none", x.said(-1), 0);
    Check.due("of none", x.said(0), -1);
    x = Check.with(Check.ORDER);
    Check.sentence(x, "whole");
    Check.due("said(-2)", x.said(-2), -1);
    Check.due("said(3)", x.said(3), -1);
    Check.due("said(2)", x.said(2), 2);
    x.grate(0, 0, 0);
    Check.due("as it is now", x.said(-1), 2);
    Check.due("as it is now", x.said(0), 1);
    x.undo();
    Check.due("as it is again", x.said(0), 0);
    count("gone", 1);
    count("not gone", 2);
    count("(gone)", 2);
    count("not (gone or whole) and left < 3", 5);
  }

  private static void bad(String text, int kind, int place) {
    GraterOrder x = Check.with(Check.ORDER);
    Check.due("sentence '" + text + "'", Check.sentence(x, text), -1 - place);
    Check.due("fault of '" + text + "'", x.fault(), kind);
    Check.due("tape behind '" + text + "'", x.count(4), 0);
    Check.due("no sentence by '" + text + "'", x.said(-1), -1);
  }

  private static void faults() {
    bad("", 1, 0);
    bad("  ", 1, 2);
    bad("not", 1, 3);
    bad("gone gone", 1, 5);
    bad("gone;", 1, 4);
    bad("gone or", 1, 7);
    bad("gone and or gone", 1, 9);
    bad("or", 1, 0);
    bad("(gone", 1, 5);
    bad("()", 1, 1);
    bad("gone)", 1, 4);
    bad("(gone;", 1, 5);
    bad("abel", 1, 0);
    bad("5", 1, 0);
    bad("even", 1, 0);
    bad("with", 1, 4);
    bad("with abel", 3, 5);
    bad("with nothings", 1, 5);
    bad("with nought", 3, 5);
    bad("with gone", 1, 5);
    bad("with 1", 1, 5);
    bad("left", 1, 4);
    bad("left 5", 1, 5);
    bad("left <", 1, 6);
    bad("left < gone", 1, 7);
    bad("left << 5", 1, 6);
    bad("left < 1000", 1, 7);
    bad("left ( 5", 1, 5);
    bad("gone ?", 1, 5);
    bad("Gone", 1, 0);
    bad("wholes", 1, 0);
  }

  private static void limits() {
    count("not not not not not not not gone", 8);
    bad("not not not not not not not not gone", 4, 32);
    bad("not not not not not not not not ;", 1, 32);
    count("(((((((gone)))))))", 8);
    bad("((((((((gone))))))))", 4, 8);
    bad("((((((((", 1, 8);
    bad("(((((((((", 4, 8);
    bad("(not (not (not (not gone))))", 4, 20);
    count("(not (not (not gone or whole)))", 8);
    String twenty = "gone" + " or gone".repeat(19);
    count(twenty, 20);
    bad(twenty + " or gone", 4, twenty.length() + 4);
    bad(twenty + " or not gone", 4, twenty.length() + 4);
    bad(twenty + " or (gone)", 4, twenty.length() + 4);
    bad(twenty + " or even", 1, twenty.length() + 4);
    bad(twenty + " or", 1, twenty.length() + 3);
    String ten = "(gone)" + " and not gone".repeat(9);
    count(ten, 20);
    bad(ten + " and gone", 4, ten.length() + 5);
  }

  private static void tooLong() {
    count("gone" + Check.blanks(196), 1);
    bad("gone" + Check.blanks(197), 1, 200);
    bad(Check.blanks(198) + "gone", 1, 200);
    bad(Check.blanks(196) + "gone or", 1, 200);
    bad(Check.blanks(199) + "abel", 1, 199);
    bad(Check.blanks(194) + "with abel", 3, 199);
    bad(Check.blanks(195) + "with abel", 1, 200);
    bad("with abel" + Check.blanks(400), 3, 5);
    bad(Check.blanks(201), 1, 200);
  }

  private static void whatStays() {
    GraterOrder x = Check.with(Check.ORDER);
    Check.sentence(x, "number > 0");
    Check.due("bad", Check.sentence(x, "number > x"), -10);
    Check.due("the sentence stays", x.said(-1), 2);
    Check.due("a bad order", Check.order(x, "x"), -1);
    Check.due("the sentence stays", x.said(-1), 2);
    Check.sentence(x, "armed");
    Check.due("another one", x.said(1), 1);
    Check.order(x, Check.ORDER);
    Check.due("a new order has none", x.said(-1), -1);
  }
}
