/**
 * Each sentence of 'Terms' that tells a bound of the texts has a test of its own here: what is
 * just within it, and what is just beyond. (FaultBoundsTest: the sentence about FAULTS.)
 */
public final class TextBoundsTest {
  private static final String TWO = "brother a 50 0;brother b 50 5;grater g 9 60;grater h 1 1;";
  private static final String HELD = TWO + "holds a g;";

  public static void main(String[] args) {
    blanks();
    words();
    numbers();
    goesOn();
    noToken();
    marks();
    orderBytes();
    orderLines();
    brotherNumbers();
    graterNumbers();
    holdsOnce();
    even();
    files();
    draught();
    namesAreNoWords();
    namesOnce();
    mostOfASort();
    numberedFromNought();
    bookBytes();
    bookLines();
    bookDays();
    sides();
    sentenceBytes();
    sentenceEmpty();
    sentenceNumbers();
    ones();
    within();
    gone();
    whole();
    armed();
    robbed();
    with();
    measures();
    signs();
    joined();
    Check.finish();
  }

  private static void blanks() {
    Check.says("with blanks (32, 10) between them or not");
    for (int c = 0; c < 256; c++) {
      if (c == 32 || c == 10) {
        Check.goodOrder("even" + (char) c + "1;", 1);
        Check.goodOrder((char) c + "even 1" + (char) c + ";" + (char) c, 1);
      } else {
        Check.badOrder("even 1;" + (char) c + "files 2;", 1, 7);
      }
    }
    Check.goodOrder("even\n \n1 \n ;\n\n", 1);
    Check.goodOrder("even 1;files 2;", 2);
    Check.badOrder("even\t1;", 1, 4);
    Check.badOrder("even 1\r;", 1, 6);
    Check.goodSentence(HELD, "(gone)or(not(left<5))", 6);
    Check.goodSentence(HELD, "\n(\ngone )\nor ( not\n(left\n< 5 )\n) ", 6);
    Check.goodBook(HELD, "a\ngrates\nb\nfine\n;\n", 1);
  }

  private static void words() {
    Check.says("WORDS: small letters, 1 to 7");
    for (char c = 'a'; c <= 'z'; c++) {
      Check.goodOrder("brother " + c + " 1 0;", 1);
      Check.goodOrder("brother x" + c + "x 1 0;", 1);
    }
    Check.goodOrder("brother abcdefg 1 0;", 1);
    Check.badOrder("brother abcdefgh 1 0;", 1, 8);
    Check.badOrder("brother abcdefghijklmnop 1 0;", 1, 8);
    for (char c : new char[] {'A', 'Z', '@', '[', '`', '{', '_', (char) 228}) {
      Check.badOrder("brother " + c + " 1 0;", 1, 8);
      Check.badOrder("brother x" + c + " 1 0;", 1, 9);
    }
    Check.badOrder("Brother a 1 0;", 1, 0);
    Check.badOrder("brothers a 1 0;", 1, 0);
    Check.badOrder("brothe a 1 0;", 1, 0);
  }

  private static void numbers() {
    Check.says("NUMBERS: 1 to 3 digits");
    for (int n = 1; n <= 240; n++) {
      GraterOrder x = Check.with("brother a " + n + " 0;");
      Check.due("block " + n, x.brother(0, 1), n);
    }
    Check.due("leading noughts", Check.with("even 007;").count(2), 7);
    Check.due("two digits", Check.with("even 07;").count(2), 7);
    Check.due("three noughts", Check.with("even 000;").count(2), 0);
    Check.badOrder("even 0007;", 1, 5);
    Check.badOrder("even 1000;", 1, 5);
    Check.badOrder("even 99999999999999999999;", 1, 5);
    for (char c : new char[] {'/', ':', '-', '+', '.'}) {
      Check.badOrder("even " + c + "1;", 1, 5);
      Check.badOrder("even 1" + c + ";", 1, 6);
    }
  }

  private static void goesOn() {
    Check.says("A WORD, NUMBER goes on as long as small letters and digits do");
    Check.badOrder("even1;", 1, 0);
    Check.badOrder("even 1a;", 1, 5);
    Check.badOrder("even 12z;", 1, 5);
    Check.badOrder("brother a0 1 0;", 1, 8);
    Check.badOrder("brother a9 1 0;", 1, 8);
    Check.badOrder("brother 0a 1 0;", 1, 8);
    Check.badOrder("brother a 1 0even 1;", 1, 12);
    Check.badOrder("brother abcdefg1 1 0;", 1, 8);
    Check.badOrder("brother abcdefgeven 1 0;", 1, 8);
    Check.badOrder("even 1230;", 1, 5);
    Check.goodOrder("even 12;files 3;", 2);
    Check.badSentence(HELD, "left<5and gone", 1, 5);
    Check.badSentence(HELD, "notgone", 1, 0);
    Check.badBook(HELD, "day1;", 1, 0);
    Check.badBook(HELD, "aputs;", 3, 0);
  }

  private static void noToken() {
    Check.says("what is not as told is no TOKEN");
    for (int c = 0; c < 256; c++) {
      boolean known = c == 32 || c == 10 || c >= 'a' && c <= 'z' || c >= '0' && c <= '9' || ";<=>()".indexOf(c) >= 0;
      if (!known) {
        Check.badOrder("even " + (char) c + "1;", 1, 5);
        Check.badBook(HELD, "day " + (char) c + "1;", 1, 4);
        Check.badSentence(HELD, "not " + (char) c + "gone", 1, 4);
      }
    }
  }

  private static void marks() {
    Check.says("; < = > ( )");
    Check.goodOrder("even 1;", 1);
    Check.goodSentence(HELD, "left<1 or left=1 or(left>1)", 4);
    for (char c : ";<=>()".toCharArray()) {
      Check.badOrder(c + "even 1;", 1, 0);
      Check.badOrder("even " + c + "1;", 1, 5);
      Check.badOrder("even 1;" + c, 1, 7);
      Check.badBook(HELD, "" + c, 1, 0);
      Check.badSentence(HELD, "gone " + c, 1, 5);
    }
    Check.badSentence(HELD, "left <= 1", 1, 6);
    Check.badSentence(HELD, "left == 1", 1, 6);
  }

  private static void orderBytes() {
    Check.says("An ORDER is a text of at most 900 bytes");
    Check.goodOrder("even 1;" + Check.blanks(892), 1);
    Check.goodOrder("even 1;" + Check.blanks(893), 1);
    Check.badOrder("even 1;" + Check.blanks(894), 1, 900);
    Check.badOrder("even 1;" + Check.blanks(933), 1, 900);
    Check.goodOrder(Check.blanks(900), 0);
    Check.badOrder(Check.blanks(901), 1, 900);
    Check.goodOrder(Check.blanks(893) + "even 1;", 1);
    Check.badOrder(Check.blanks(894) + "even 1;", 1, 900);
  }

  private static void orderLines() {
    Check.says("{ LINE ; }. LINE: 'brother' NAME BLOCK HARD");
    Check.goodOrder("", 0);
    Check.goodOrder("\n", 0);
    Check.goodOrder("even 1;", 1);
    Check.goodOrder(Check.crowd(7, 6) + "holds a p;holds b q;holds c r;holds d s;holds e t;holds f u;even 1;files 1;draught 1;", 22);
    Check.badOrder(";", 1, 0);
    Check.badOrder("even 1", 1, 6);
    Check.badOrder("even 1;;", 1, 7);
    Check.badOrder("even 1;files 1", 1, 14);
    Check.badOrder("even 1 files 1;", 1, 7);
    Check.badOrder("brother a 1;", 1, 11);
    Check.badOrder("brother a 1 2 3;", 1, 14);
    Check.badOrder("brother 1 2;", 1, 8);
  }

  private static void brotherNumbers() {
    Check.says("'brother' NAME BLOCK HARD (1 to 240; 0 to 5)");
    for (int n = 0; n < 1000; n++) {
      if (n >= 1 && n <= 240) {
        Check.goodOrder("brother a " + n + " 0;", 1);
      } else {
        Check.badOrder("brother a " + n + " 0;", 2, 10);
      }
      if (n <= 5) {
        Check.due("hard " + n, Check.with("brother a 1 " + n + ";").brother(0, 2), n);
      } else {
        Check.badOrder("brother a 1 " + n + ";", 2, 12);
      }
    }
  }

  private static void graterNumbers() {
    Check.says("'grater' NAME TEETH EDGE (1 to 9; 1 to 60)");
    for (int n = 0; n < 1000; n++) {
      if (n >= 1 && n <= 9) {
        Check.due("teeth " + n, Check.with("grater g " + n + " 1;").grater(0, 0), n);
      } else {
        Check.badOrder("grater g " + n + " 1;", 2, 9);
      }
      if (n >= 1 && n <= 60) {
        Check.due("edge " + n, Check.with("grater g 1 " + n + ";").grater(0, 1), n);
      } else {
        Check.badOrder("grater g 1 " + n + ";", 2, 11);
      }
    }
  }

  private static void holdsOnce() {
    Check.says("'holds' BROTHER GRATER (each of both once)");
    int at = TWO.length();
    Check.goodOrder(TWO + "holds a g;holds b h;", 6);
    Check.goodOrder(TWO + "holds a h;holds b g;", 6);
    Check.badOrder(TWO + "holds a g;holds a h;", 3, at + 16);
    Check.badOrder(TWO + "holds a g;holds a g;", 3, at + 16);
    Check.badOrder(TWO + "holds a g;holds b g;", 3, at + 18);
    Check.badOrder(TWO + "holds a h;holds b h;", 3, at + 18);
    GraterOrder x = Check.with(TWO + "holds b g;");
    Check.due("b holds g", x.brother(1, 3), 0);
    Check.due("a holds none", x.brother(0, 3), -1);
    Check.due("nobody holds h", x.grater(1, 4), -1);
  }

  private static void even() {
    Check.says("'even' N (0 to 20; once; 3 without)");
    for (int n = 0; n < 1000; n++) {
      if (n <= 20) {
        Check.due("even " + n, Check.with("even " + n + ";").count(2), n);
      } else {
        Check.badOrder("even " + n + ";", 2, 5);
      }
    }
    Check.badOrder("even 3;even 3;", 3, 7);
    Check.badOrder("even 0;files 1;even 1;", 3, 15);
    Check.due("without", Check.with("files 7;draught 8;").count(2), 3);
    GraterOrder x = Check.with("even 9;");
    Check.order(x, "files 2;");
    Check.due("without, in the next order", x.count(2), 3);
  }

  private static void files() {
    Check.says("'files' N (0 to 20; once; 1 without)");
    for (int n = 0; n < 1000; n++) {
      if (n <= 20) {
        Check.due("files " + n, Check.with("files " + n + ";").now(3), n);
      } else {
        Check.badOrder("files " + n + ";", 2, 6);
      }
    }
    Check.badOrder("files 1;files 1;", 3, 8);
    Check.badOrder("files 0;even 1;files 0;", 3, 15);
    Check.due("without", Check.with("even 7;draught 8;").now(3), 1);
    GraterOrder x = Check.with("files 9;");
    Check.order(x, "even 2;");
    Check.due("without, in the next order", x.now(3), 1);
  }

  private static void draught() {
    Check.says("'draught' N (0 to 12; once; 0 without)");
    for (int n = 0; n < 1000; n++) {
      if (n <= 12) {
        Check.due("draught " + n, Check.with("draught " + n + ";").count(3), n);
      } else {
        Check.badOrder("draught " + n + ";", 2, 8);
      }
    }
    Check.badOrder("draught 0;draught 0;", 3, 10);
    Check.badOrder("draught 1;even 1;draught 1;", 3, 17);
    Check.due("without", Check.with("even 7;files 8;").count(3), 0);
    GraterOrder x = Check.with("draught 9;");
    Check.order(x, "even 2;");
    Check.due("without, in the next order", x.count(3), 0);
  }

  private static void namesAreNoWords() {
    Check.says("NAME: a WORD, none of those told here, in a BOOK or a SENTENCE");
    String all = "brother grater holds even files draught grates takes puts swaps file day fine coarse slice "
        + "or and not gone whole armed robbed with left today hurt number";
    for (String word : all.split(" ")) {
      Check.badOrder("brother " + word + " 1 0;", 1, 8);
      Check.badOrder("grater " + word + " 1 1;", 1, 7);
      Check.goodOrder("brother " + word.substring(0, word.length() - 1) + "x 1 0;", 1);
    }
    for (String free : "files grate take put swap days fines has of by none draugh eve lef ord nor".split(" ")) {
      if (!free.equals("files")) {
        Check.goodOrder("brother " + free + " 1 0;", 1);
        Check.goodOrder("grater " + free + " 1 1;", 1);
      }
    }
  }

  private static void namesOnce() {
    Check.says("told once. 7 BROTHERS");
    Check.badOrder("brother a 1 0;brother a 1 0;", 3, 22);
    Check.badOrder("brother a 1 0;grater a 1 1;", 3, 21);
    Check.badOrder("grater a 1 1;brother a 1 0;", 3, 21);
    Check.badOrder("grater a 1 1;grater a 1 1;", 3, 20);
    Check.goodOrder("brother a 1 0;brother aa 1 0;grater aaa 1 1;grater b 1 1;", 4);
    Check.goodOrder("brother abcdefg 1 0;brother bcdefg 1 0;brother abcdef 1 0;", 3);
    String six = Check.crowd(6, 0);
    Check.badOrder(six + "brother f 1 0;", 3, six.length() + 8);
    String five = Check.crowd(0, 5);
    Check.badOrder(five + "grater t 1 1;", 3, five.length() + 7);
    GraterOrder x = Check.with("brother a 1 0;");
    Check.due("again in another order", Check.order(x, "grater a 1 1;"), 1);
  }

  private static void mostOfASort() {
    Check.says("7 BROTHERS, 6 GRATERS at most");
    Check.goodOrder(Check.crowd(6, 6), 12);
    Check.goodOrder(Check.crowd(7, 6), 13);
    Check.badOrder(Check.crowd(7, 0) + "brother z 1 0;", 4, Check.crowd(7, 0).length());
    Check.badOrder(Check.crowd(7, 6) + "brother z 1 0;", 4, Check.crowd(7, 6).length());
    Check.goodOrder(Check.crowd(0, 6), 6);
    Check.badOrder(Check.crowd(0, 6) + "grater z 1 1;", 4, Check.crowd(0, 6).length());
    Check.goodOrder(Check.crowd(7, 5) + "grater z 1 1;", 13);
    GraterOrder x = Check.with(Check.crowd(7, 6));
    Check.due("seven", x.count(0), 7);
    Check.due("six", x.count(1), 6);
    Check.due("the seventh", x.brother(6, 1), 50);
    Check.due("the sixth", x.grater(5, 0), 5);
  }

  private static void numberedFromNought() {
    Check.says("numbered from 0 each");
    GraterOrder x = Check.with("grater g 7 1;brother a 11 0;grater h 8 1;brother b 12 0;");
    Check.due("the first brother", x.brother(0, 1), 11);
    Check.due("the second brother", x.brother(1, 1), 12);
    Check.throwsNoSuch(x, 2, 1);
    Check.due("the first grater", x.grater(0, 0), 7);
    Check.due("the second grater", x.grater(1, 0), 8);
    Check.due("no third", x.grater(2, 0), -1);
  }

  private static void bookBytes() {
    Check.says("A BOOK is a text of at most 400 bytes: { LINE ; }");
    Check.goodBook(HELD, "", 0);
    Check.goodBook(HELD, Check.blanks(400), 0);
    Check.badBook(HELD, Check.blanks(401), 1, 400);
    Check.goodBook(HELD, "day 1;" + Check.blanks(393), 1);
    Check.goodBook(HELD, "day 1;" + Check.blanks(394), 1);
    Check.badBook(HELD, "day 1;" + Check.blanks(395), 1, 400);
    Check.badBook(HELD, "day 1;" + Check.blanks(934), 1, 400);
    Check.goodBook(HELD, Check.blanks(394) + "day 1;", 1);
    Check.badBook(HELD, Check.blanks(395) + "day 1;", 1, 400);
    Check.badBook(HELD, ";", 1, 0);
    Check.badBook(HELD, "day 1", 1, 5);
    Check.badBook(HELD, "day 1;;", 1, 6);
  }

  private static void bookLines() {
    Check.says("40 at most");
    Check.goodBook(HELD, "day 1;".repeat(39), 39);
    Check.goodBook(HELD, "day 1;".repeat(40), 40);
    Check.badBook(HELD, "day 1;".repeat(41), 4, 240);
    Check.badBook(HELD, "day 1;".repeat(42), 4, 240);
    Check.goodBook(HELD, "day 1;".repeat(39) + "a puts;", 40);
    Check.badBook(HELD, "day 1;".repeat(40) + "a puts;", 4, 240);
    Check.badBook(HELD, "day 1;".repeat(40) + "file g;", 4, 240);
  }

  private static void bookDays() {
    Check.says("'day' N (1 to 60)");
    for (int n = 0; n < 1000; n++) {
      if (n >= 1 && n <= 60) {
        GraterOrder x = Check.with(HELD);
        Check.due("day " + n, Check.book(x, "day " + n + ";", 1), -1);
        Check.due("now after " + n, x.now(0), n);
      } else {
        Check.badBook(HELD, "day " + n + ";", 2, 4);
      }
    }
  }

  private static void sides() {
    Check.says("SIDE: 'fine', 'coarse', 'slice', numbered from 0");
    String[] side = {"fine", "coarse", "slice"};
    int[] falls = {1, 9, 27};
    for (int s = 0; s < 3; s++) {
      GraterOrder x = Check.with(HELD);
      Check.due("curl " + s, x.curl(0, 0, s), falls[s]);
      Check.due("grate " + s, x.grate(0, 0, s), 0);
      Check.due("fell by " + s, x.now(1), falls[s]);
      GraterOrder y = Check.with(HELD);
      Check.due("book " + side[s], Check.book(y, "a grates a " + side[s] + ";", 1), -1);
      Check.due("fell " + side[s], y.now(1), falls[s]);
    }
    Check.badBook(HELD, "a grates a rough;", 1, 11);
    Check.badBook(HELD, "a grates a 0;", 1, 11);
    Check.badBook(HELD, "a grates a;", 1, 10);
    GraterOrder z = Check.with(HELD);
    Check.due("side 3", z.grate(0, 0, 3), -1);
    Check.due("side -1", z.grate(0, 0, -1), -1);
  }

  private static void sentenceBytes() {
    Check.says("A SENTENCE is a text of at most 200 bytes");
    Check.goodSentence(HELD, "gone" + Check.blanks(195), 1);
    Check.goodSentence(HELD, "gone" + Check.blanks(196), 1);
    Check.badSentence(HELD, "gone" + Check.blanks(197), 1, 200);
    Check.badSentence(HELD, "gone" + Check.blanks(936), 1, 200);
    Check.goodSentence(HELD, Check.blanks(196) + "gone", 1);
    Check.badSentence(HELD, Check.blanks(197) + "gone", 1, 200);
    Check.badSentence(HELD, Check.blanks(201), 1, 200);
  }

  private static void sentenceEmpty() {
    Check.says("COND: ALL { 'or' ALL }. ALL: ONE { 'and' ONE }");
    Check.badSentence(HELD, "", 1, 0);
    Check.badSentence(HELD, "\n", 1, 1);
    Check.badSentence(HELD, Check.blanks(200), 1, 200);
    Check.badSentence(HELD, "()", 1, 1);
    Check.badSentence(HELD, "or gone", 1, 0);
    Check.badSentence(HELD, "and gone", 1, 0);
    Check.badSentence(HELD, "gone or", 1, 7);
    Check.badSentence(HELD, "gone and", 1, 8);
    Check.badSentence(HELD, "gone or or gone", 1, 8);
    Check.badSentence(HELD, "gone and and gone", 1, 9);
    Check.badSentence(HELD, "gone gone", 1, 5);
    Check.badSentence(HELD, "(gone", 1, 5);
    Check.badSentence(HELD, "gone)", 1, 4);
    Check.badSentence(HELD, "(gone))", 1, 6);
    Check.badSentence(HELD, "((gone)", 1, 7);
    Check.badSentence(HELD, "not", 1, 3);
    Check.badSentence(HELD, "gone;", 1, 4);
    Check.goodSentence(HELD, "gone and gone or gone and gone", 4);
  }

  private static void sentenceNumbers() {
    Check.says("SIGN NUMBER (of his block");
    for (String n : new String[] {"0", "00", "000", "1", "240", "241", "999"}) {
      Check.goodSentence(HELD, "left = " + n, 1);
      Check.goodSentence(HELD, "number > " + n, 1);
    }
    Check.badSentence(HELD, "left = 1000", 1, 7);
    Check.badSentence(HELD, "left = 0000", 1, 7);
    Check.badSentence(HELD, "left =", 1, 6);
    Check.badSentence(HELD, "left 5", 1, 5);
    Check.badSentence(HELD, "left", 1, 4);
  }

  private static void ones() {
    Check.says("20 ONES");
    String nineteen = "gone" + " or gone".repeat(18);
    Check.goodSentence(HELD, nineteen, 19);
    Check.goodSentence(HELD, nineteen + " and gone", 20);
    Check.badSentence(HELD, nineteen + " and gone or gone", 4, nineteen.length() + 9 + 4);
    Check.goodSentence(HELD, nineteen + " or gone", 20);
    Check.badSentence(HELD, nineteen + " or (gone)", 4, nineteen.length() + 5);
    Check.badSentence(HELD, nineteen + " or not gone", 4, nineteen.length() + 8);
    String nots = "not gone" + " or not gone".repeat(9);
    Check.goodSentence(HELD, nots, 20);
    Check.badSentence(HELD, nots + " or gone", 4, nots.length() + 4);
    String brackets = "(gone)" + "or(gone)".repeat(9);
    Check.goodSentence(HELD, brackets, 20);
    Check.badSentence(HELD, brackets + "or(gone)", 4, brackets.length() + 2);
    GraterOrder x = Check.with(Check.crowd(3, 0));
    Check.due("the last of 20 counts", said(x, "gone or ".repeat(19) + "whole"), 7);
    Check.due("the first of 20 counts", said(x, "whole" + " or gone".repeat(19)), 7);
    Check.due("the last of 20 counts", said(x, "whole and ".repeat(18) + "not gone"), 7);
    Check.due("the last of 20 counts", said(x, "whole and ".repeat(18) + "not whole"), 0);
  }

  private static void within() {
    Check.says("8 within one another");
    Check.goodSentence(HELD, "not not not not not not gone", 7);
    Check.goodSentence(HELD, "not not not not not not not gone", 8);
    Check.badSentence(HELD, "not not not not not not not not gone", 4, 32);
    Check.goodSentence(HELD, "(((((((gone)))))))", 8);
    Check.badSentence(HELD, "((((((((gone))))))))", 4, 8);
    Check.goodSentence(HELD, "not(not(not(not gone)))", 8);
    Check.badSentence(HELD, "not(not(not(not(gone))))", 4, 16);
    Check.goodSentence(HELD, "(((((((gone or gone and gone)))))))or(((((((gone)))))))", 18);
    Check.badSentence(HELD, "(((((((gone or gone and not gone)))))))", 4, 28);
  }

  /** Of whom it is said, as bits. */
  private static int said(GraterOrder x, String text) {
    int ones = Check.sentence(x, text);
    Check.due("'" + text + "' is one", ones > 0, true);
    int bits = 0;
    for (int k = 0; k < x.said(-1); k++) {
      bits |= 1 << x.said(k);
    }
    return bits;
  }

  private static void gone() {
    Check.says("'gone' (nothing is left of his block)");
    GraterOrder x = Check.with("brother a 2 0;brother b 1 0;grater g 1 60;holds a g;");
    Check.due("2 and 1 left", said(x, "gone"), 0);
    x.grate(0, 0, 0);
    Check.due("1 and 1 left", said(x, "gone"), 0);
    x.grate(0, 1, 0);
    Check.due("1 and 0 left", said(x, "gone"), 2);
    x.grate(0, 0, 0);
    Check.due("0 and 0 left", said(x, "gone"), 3);
  }

  private static void whole() {
    Check.says("'whole' (all is)");
    GraterOrder x = Check.with("brother a 240 0;brother b 1 0;grater g 1 60;holds a g;");
    Check.due("both", said(x, "whole"), 3);
    x.grate(0, 0, 0);
    Check.due("239 of 240 is not", said(x, "whole"), 2);
    x.grate(0, 1, 0);
    Check.due("nor is 0 of 1", said(x, "whole"), 0);
  }

  private static void armed() {
    Check.says("'armed' (he has a GRATER)");
    GraterOrder x = Check.with(HELD);
    Check.due("a, with grater 0", said(x, "armed"), 1);
    x.take(1, 1);
    Check.due("both", said(x, "armed"), 3);
    x.put(0);
    Check.due("b", said(x, "armed"), 2);
    x.put(1);
    Check.due("nobody", said(x, "armed"), 0);
  }

  private static void robbed() {
    Check.says("'robbed' (another one grated his block)");
    GraterOrder x = Check.with(HELD);
    x.grate(0, 0, 1);
    Check.due("his own is none", said(x, "robbed"), 0);
    x.grate(0, 1, 0);
    Check.due("by one", said(x, "robbed"), 2);
    x.days(1);
    Check.due("a day later, too", said(x, "robbed"), 2);
    x.take(1, 1);
    x.grate(1, 0, 0);
    Check.due("both", said(x, "robbed"), 3);
  }

  private static void with() {
    Check.says("'with' GRATER (he has that)");
    GraterOrder x = Check.with(HELD);
    Check.due("g", said(x, "with g"), 1);
    Check.due("h, that nobody has", said(x, "with h"), 0);
    x.swap(0, 1);
    Check.due("g then", said(x, "with g"), 2);
    x.take(0, 1);
    Check.due("h then", said(x, "with h"), 1);
  }

  private static void measures() {
    Check.says("'left' | 'today' | 'hurt' | 'number' ) SIGN NUMBER (of his block; what he grated today; knuckles; his number)");
    GraterOrder x = Check.with("brother a 9 0;brother b 240 0;grater g 2 60;holds a g;");
    x.grate(0, 0, 2);
    x.grate(0, 1, 1);
    Check.due("left 3", said(x, "left = 3"), 1);
    Check.due("left 238", said(x, "left = 238"), 2);
    Check.due("today 8", said(x, "today = 8"), 1);
    Check.due("today 0", said(x, "today = 0"), 2);
    Check.due("hurt 1", said(x, "hurt = 1"), 1);
    Check.due("hurt 0", said(x, "hurt = 0"), 2);
    Check.due("number 0", said(x, "number = 0"), 1);
    Check.due("number 1", said(x, "number = 1"), 2);
    Check.due("number 2", said(x, "number = 2"), 0);
    x.days(1);
    Check.due("today on the next day", said(x, "today = 0"), 3);
    Check.due("hurt on the next day", said(x, "hurt = 1"), 1);
  }

  private static void signs() {
    Check.says("SIGN: < = >");
    GraterOrder x = Check.with(Check.crowd(7, 0));
    for (int n = 0; n < 9; n++) {
      int below = (1 << Math.min(n, 7)) - 1;
      int at = n < 7 ? 1 << n : 0;
      Check.due("below " + n, said(x, "number < " + n), below);
      Check.due("at " + n, said(x, "number = " + n), at);
      Check.due("above " + n, said(x, "number > " + n), 127 & ~below & ~at);
    }
    Check.badSentence(HELD, "number ( 1", 1, 7);
    Check.badSentence(HELD, "number and 1", 1, 7);
  }

  private static void joined() {
    Check.says("ONE: 'not' ONE | ( COND )");
    GraterOrder x = Check.with(Check.crowd(4, 0));
    Check.due("and binds before or", said(x, "number=0 or number=1 and number=2"), 1);
    Check.due("and binds before or", said(x, "number=2 and number=1 or number=0"), 1);
    Check.due("brackets", said(x, "(number=0 or number=1) and number<1"), 1);
    Check.due("not binds before and", said(x, "not number=0 and number<2"), 2);
    Check.due("not binds before or", said(x, "not number=0 or number=0"), 15);
    Check.due("not of a bracket", said(x, "not (number=0 or number=1)"), 12);
    Check.due("not of a not", said(x, "not not number=1"), 2);
    Check.due("many", said(x, "number=0 or number=1 or number=3"), 11);
    Check.due("many", said(x, "not number=0 and not number=1 and not number=3"), 4);
  }
}
