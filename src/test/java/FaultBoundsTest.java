/** The sentence about FAULTS, bit by bit: each of its clauses has a test of its own. */
public final class FaultBoundsTest {
  private static final String TWO = "brother a 50 0;brother b 50 5;grater g 9 60;grater h 1 1;";
  private static final int AT = TWO.length();

  public static void main(String[] args) {
    firstAlong();
    least();
    atTheToken();
    atTheEnd();
    atTheMost();
    faultAhead();
    readWhole();
    wrongNumber();
    toldTwice();
    notTold();
    otherSort();
    heldAgain();
    onceAgain();
    oneMore();
    line41();
    one21();
    ninthWithin();
    Check.finish();
  }

  private static void firstAlong() {
    Check.says("FAULTS, the first along the text");
    Check.badOrder("even 21;?", 2, 5);
    Check.badOrder("?even 21;", 1, 0);
    Check.badOrder("even 1;even 2;brother a 0 0;", 3, 7);
    Check.badOrder("brother a 0 0;even 1;even 2;", 2, 10);
    Check.badOrder("brother a 241 6;", 2, 10);
    Check.badOrder("grater g 1 61 ?", 2, 11);
    Check.badOrder("holds x y;", 3, 6);
    Check.badOrder(Check.crowd(7, 0) + "brother ? 999 9", 4, Check.crowd(7, 0).length());
    Check.badBook(TWO, "a takes x;day 0;?", 3, 8);
    Check.badBook(TWO, "day 61;a takes x;", 2, 4);
    Check.badBook(TWO, "day 1 a takes x;day 0;", 1, 6);
    Check.badSentence(TWO, "with x or left < gone", 3, 5);
    Check.badSentence(TWO, "left < gone or with x", 1, 7);
    Check.badSentence(TWO, "not not not not not not not not gone ?", 4, 32);
  }

  private static void least() {
    Check.says("of one TOKEN the least");
    String forty = "day 1;".repeat(40);
    Check.badBook(TWO, forty + "x puts;", 3, 240);
    Check.badBook(TWO, forty + "g puts;", 3, 240);
    Check.badBook(TWO, forty + "even 1;", 1, 240);
    Check.badBook(TWO, forty + "puts;", 1, 240);
    Check.badBook(TWO, forty + "abcdefgh puts;", 1, 240);
    Check.badBook(TWO, forty + ";", 1, 240);
    Check.badBook(TWO, forty + "5;", 1, 240);
    String twenty = "gone" + " or gone".repeat(19);
    Check.badSentence(TWO, twenty + " or ?", 1, twenty.length() + 4);
    Check.badSentence(TWO, twenty + " or or", 1, twenty.length() + 4);
    Check.badSentence(TWO, twenty + " or a", 1, twenty.length() + 4);
    Check.badSentence(TWO, "not not not not not not not not 5", 1, 32);
    Check.badSentence(TWO, "(((((((()", 1, 8);
    Check.badOrder("brother even 0 0;", 1, 8);
    Check.badOrder("even 1;even even", 3, 7);
  }

  private static void atTheToken() {
    Check.says("1 no TOKEN, or one that can't come (at it;");
    Check.badOrder("   ?", 1, 3);
    Check.badOrder("even  ?", 1, 6);
    Check.badOrder("even  ;", 1, 6);
    Check.badOrder("even  a;", 1, 6);
    Check.badOrder("even  files;", 1, 6);
    Check.badOrder("x 1;", 1, 0);
    Check.badOrder("a\n", 1, 0);
    Check.badOrder("day 1;", 1, 0);
    Check.badOrder("brother a 1 0  1;", 1, 15);
    Check.badOrder(TWO + "holds holds g;", 1, AT + 6);
    Check.badOrder(TWO + "holds a holds;", 1, AT + 8);
    Check.badOrder(TWO + "holds a 1;", 1, AT + 8);
    Check.badBook(TWO, "  ?", 1, 2);
    Check.badBook(TWO, "a  b;", 1, 3);
    Check.badBook(TWO, "a  file;", 1, 3);
    Check.badBook(TWO, "a  fine;", 1, 3);
    Check.badBook(TWO, "a puts  g;", 1, 8);
    Check.badBook(TWO, "a takes  day;", 1, 9);
    Check.badBook(TWO, "a grates b  g;", 1, 12);
    Check.badBook(TWO, "day  a;", 1, 5);
    Check.badBook(TWO, "file  file;", 1, 6);
    Check.badSentence(TWO, "  ?", 1, 2);
    Check.badSentence(TWO, "gone  ?", 1, 6);
    Check.badSentence(TWO, "with  gone", 1, 6);
    Check.badSentence(TWO, "left  gone", 1, 6);
    Check.badSentence(TWO, "left >  gone", 1, 8);
    Check.badSentence(TWO, "( gone  ;", 1, 8);
  }

  private static void atTheEnd() {
    Check.says("the end: how many bytes there are;");
    for (int blanks = 0; blanks < 5; blanks++) {
      String end = Check.blanks(blanks);
      for (String order : new String[] {"brother", "brother a", "brother a 1", "brother a 1 0", "grater", "grater g",
          "grater g 1", "grater g 1 1", "holds", "even", "even 1", "files", "files 1", "draught", "draught 1"}) {
        Check.badOrder(order + end, 1, order.length() + blanks);
      }
      Check.badOrder(TWO + "holds a" + end, 1, AT + 7 + blanks);
      Check.badOrder(TWO + "holds a g" + end, 1, AT + 9 + blanks);
      for (String book : new String[] {"a", "a grates", "a grates b", "a grates b fine", "a takes", "a takes g", "a puts",
          "a swaps", "a swaps b", "file", "file g", "day", "day 1"}) {
        Check.badBook(TWO, book + end, 1, book.length() + blanks);
      }
      for (String sentence : new String[] {"", "not", "(", "(gone", "with", "left", "left <", "gone or", "gone and"}) {
        Check.badSentence(TWO, sentence + end, 1, sentence.length() + blanks);
      }
    }
    Check.badOrder("even" + Check.blanks(896), 1, 900);
    Check.badBook(TWO, "day" + Check.blanks(397), 1, 400);
    Check.badSentence(TWO, "not" + Check.blanks(197), 1, 200);
  }

  private static void atTheMost() {
    Check.says("the most bytes told, if there are more");
    for (int more = 1; more <= 40; more += 3) {
      Check.badOrder(Check.blanks(900 + more), 1, 900);
      Check.badOrder("even 1;" + Check.blanks(893 + more), 1, 900);
      Check.badOrder("even" + Check.blanks(896 + more), 1, 900);
      Check.badBook(TWO, "day 1;" + Check.blanks(394 + more), 1, 400);
      Check.badBook(TWO, "day" + Check.blanks(397 + more), 1, 400);
      Check.badSentence(TWO, "gone" + Check.blanks(196 + more), 1, 200);
      Check.badSentence(TWO, "not" + Check.blanks(197 + more), 1, 200);
    }
    Check.badOrder(Check.blanks(900) + "?", 1, 900);
    Check.badOrder(Check.blanks(900) + "even 21;", 1, 900);
    Check.badOrder(Check.blanks(905) + "even 21;", 1, 900);
    Check.badOrder(Check.blanks(895) + "even 21;", 1, 900);
    Check.badBook(TWO, Check.blanks(396) + "day 0;", 1, 400);
    Check.badBook(TWO, Check.blanks(400) + "x;", 1, 400);
    Check.badBook(TWO, Check.blanks(405) + "x;", 1, 400);
    Check.badSentence(TWO, Check.blanks(195) + "with x", 1, 200);
    Check.badSentence(TWO, Check.blanks(205) + "x", 1, 200);
    Check.badSentence(TWO, Check.blanks(196) + "gone or gone", 1, 200);
  }

  private static void faultAhead() {
    Check.says("and no FAULT is ahead");
    Check.badOrder("even 21;" + Check.blanks(900), 2, 5);
    Check.badOrder("?" + Check.blanks(920), 1, 0);
    Check.badOrder(Check.blanks(899) + "?" + Check.blanks(20), 1, 899);
    Check.badOrder("even 1;even 1;" + Check.blanks(900), 3, 7);
    Check.badBook(TWO, "day 0;" + Check.blanks(500), 2, 4);
    Check.badBook(TWO, "day 1;".repeat(41) + Check.blanks(500), 4, 240);
    Check.badSentence(TWO, "with x" + Check.blanks(300), 3, 5);
    Check.badSentence(TWO, "((((((((gone" + Check.blanks(300), 4, 8);
  }

  private static void readWhole() {
    Check.says("TOKENS that begin ahead of it are read whole");
    Check.badOrder(Check.blanks(894) + "even 21;", 2, 899);
    Check.badOrder(Check.blanks(894) + "even 20;", 1, 900);
    Check.badOrder(Check.blanks(894) + "even 999;", 2, 899);
    Check.badOrder(Check.blanks(894) + "even 1000;", 1, 899);
    Check.badOrder(Check.blanks(894) + "even 2x;", 1, 899);
    Check.badOrder(Check.blanks(899) + "even", 1, 900);
    Check.badOrder(Check.blanks(899) + "evens", 1, 899);
    Check.badOrder(Check.blanks(896) + "brother", 1, 900);
    Check.badOrder(Check.blanks(896) + "brothers", 1, 896);
    Check.badOrder("even 1;" + Check.blanks(892) + "even", 3, 899);
    Check.badOrder(TWO + Check.blanks(899 - AT - 8) + "brother ab", 1, 900);
    Check.badOrder(TWO + Check.blanks(899 - AT - 8) + "brother a", 3, 899);
    Check.badOrder(TWO + Check.blanks(899 - AT - 8) + "brother abcdefgh", 1, 899);
    Check.badBook(TWO, Check.blanks(395) + "day 60;", 1, 400);
    Check.badBook(TWO, Check.blanks(395) + "day 61;", 2, 399);
    Check.badBook(TWO, Check.blanks(399) + "ab puts;", 3, 399);
    Check.badBook(TWO, Check.blanks(399) + "a puts;", 1, 400);
    Check.badSentence(TWO, Check.blanks(194) + "with gx", 3, 199);
    Check.badSentence(TWO, Check.blanks(194) + "with g ", 1, 200);
    Check.badSentence(TWO, Check.blanks(193) + "left < 5000", 1, 200);
    Check.badSentence(TWO, Check.blanks(192) + "left < 5000", 1, 199);
    Check.badSentence(TWO, Check.blanks(199) + "gone", 1, 200);
    Check.badSentence(TWO, Check.blanks(199) + "gones", 1, 199);
  }

  private static void wrongNumber() {
    Check.says("2 a NUMBER that is not as told (at it)");
    Check.badOrder("brother a  0 0;", 2, 11);
    Check.badOrder("brother a 1  6;", 2, 13);
    Check.badOrder("grater g  10 1;", 2, 10);
    Check.badOrder("grater g 1  61;", 2, 12);
    Check.badOrder("even  21;", 2, 6);
    Check.badOrder("files\n21;", 2, 6);
    Check.badOrder("draught\n\n13;", 2, 9);
    Check.badOrder("even 021;", 2, 5);
    Check.badBook(TWO, "day  0;", 2, 5);
    Check.badBook(TWO, "day  000;", 2, 5);
    Check.badBook(TWO, "day 1;day 061;", 2, 10);
    Check.goodBook(TWO, "day 060;", 1);
  }

  private static void toldTwice() {
    Check.says("3 a NAME told twice");
    Check.badOrder(TWO + "brother  a 0 9;", 3, AT + 9);
    Check.badOrder(TWO + "brother  h 0 9;", 3, AT + 9);
    Check.badOrder(TWO + "grater  g 0 99;", 3, AT + 8);
    Check.badOrder(TWO + "grater  b 0 99;", 3, AT + 8);
    Check.badOrder(TWO + "brother a", 3, AT + 8);
    Check.badOrder("brother abcdefg 1 0;brother abcdefg 1 0;", 3, 28);
  }

  private static void notTold() {
    Check.says("not told, or of another sort");
    Check.badOrder("holds a g;", 3, 6);
    Check.badOrder("holds a g;brother a 1 0;grater g 1 1;", 3, 6);
    Check.badOrder("brother a 1 0;holds a g;grater g 1 1;", 3, 22);
    Check.badOrder(TWO + "holds c g;", 3, AT + 6);
    Check.badOrder(TWO + "holds a i;", 3, AT + 8);
    for (String verb : new String[] {"puts;", "takes g;", "swaps b;", "grates b fine;"}) {
      Check.badBook(TWO, "c " + verb, 3, 0);
      Check.badBook("", "a " + verb, 3, 0);
    }
    Check.badBook(TWO, "a takes i;", 3, 8);
    Check.badBook(TWO, "a swaps c;", 3, 8);
    Check.badBook(TWO, "a grates c fine;", 3, 9);
    Check.badBook(TWO, "file i;", 3, 5);
    Check.badSentence(TWO, "with i", 3, 5);
    Check.badSentence("", "with g", 3, 5);
    GraterOrder x = Check.with(TWO);
    Check.order(x, "brother c 1 0;");
    Check.due("of the order ahead", Check.book(x, "a puts;", 0), -2);
    Check.due("its kind", x.fault(), 3);
  }

  private static void otherSort() {
    Check.says("or of another sort");
    Check.badOrder(TWO + "holds g h;", 3, AT + 6);
    Check.badOrder(TWO + "holds a b;", 3, AT + 8);
    Check.badBook(TWO, "g puts;", 3, 0);
    Check.badBook(TWO, "a takes b;", 3, 8);
    Check.badBook(TWO, "a swaps g;", 3, 8);
    Check.badBook(TWO, "a grates h fine;", 3, 9);
    Check.badBook(TWO, "file a;", 3, 5);
    Check.badSentence(TWO, "with b", 3, 5);
  }

  private static void heldAgain() {
    Check.says("a BROTHER, a GRATER told to be held again (at it)");
    String held = TWO + "holds a g;";
    int at = held.length();
    Check.badOrder(held + "holds  a h;", 3, at + 7);
    Check.badOrder(held + "holds b  g;", 3, at + 9);
    Check.badOrder(held + "holds a g;", 3, at + 6);
    Check.badOrder(held + "holds a ?", 3, at + 6);
    Check.badOrder(held + "holds b g ?", 3, at + 8);
    Check.goodOrder(held + "holds b h;", 6);
  }

  private static void onceAgain() {
    Check.says("what is told once told again (at the WORD)");
    for (String word : new String[] {"even", "files", "draught"}) {
      int length = word.length();
      Check.badOrder(word + " 1;" + word + " 2;", 3, length + 3);
      Check.badOrder(word + " 1;  " + word + " 99;", 3, length + 5);
      Check.badOrder(word + " 1;" + word, 3, length + 3);
      Check.badOrder(word + " 1;" + word + "?", 3, length + 3);
      Check.badOrder(word + " 0;" + TWO + word + " 0;", 3, length + 3 + AT);
    }
    Check.goodOrder("draught 1;files 1;even 1;", 3);
  }

  private static void oneMore() {
    Check.says("4 one more than there may be of a sort");
    String brothers = Check.crowd(7, 0);
    String graters = Check.crowd(0, 6);
    Check.badOrder(brothers + "brother z 1 0;", 4, brothers.length());
    Check.badOrder(brothers + "  brother z 1 0;", 4, brothers.length() + 2);
    Check.badOrder(brothers + "brother a 0 0;", 4, brothers.length());
    Check.badOrder(brothers + "brother", 4, brothers.length());
    Check.badOrder(graters + "grater z 1 1;", 4, graters.length());
    Check.badOrder(graters + "\ngrater", 4, graters.length() + 1);
    Check.badOrder(graters + brothers + "grater z 1 1;", 4, graters.length() + brothers.length());
    Check.badOrder(brothers + graters + "brother z 1 0;", 4, graters.length() + brothers.length());
    Check.goodOrder(brothers + graters, 13);
    Check.goodOrder(graters + brothers, 13);
  }

  private static void line41() {
    Check.says("a 41st LINE of a BOOK (at the LINE's first WORD)");
    String forty = "a puts;".repeat(40);
    Check.due("forty lines", Check.book(Check.with(TWO), forty, 0), 0);
    Check.badBook(TWO, forty + "a puts;", 4, 280);
    Check.badBook(TWO, forty + "  a puts;", 4, 282);
    Check.badBook(TWO, forty + "a ?", 4, 280);
    Check.badBook(TWO, forty + "day 0;", 4, 280);
    Check.badBook(TWO, forty + "day", 4, 280);
    Check.badBook(TWO, forty + "file x;", 4, 280);
    Check.badBook(TWO, forty + "file", 4, 280);
    Check.due("forty lines and blanks", Check.book(Check.with(TWO), forty + " \n", 0), 0);
  }

  private static void one21() {
    Check.says("a 21st ONE");
    String twenty = "gone" + " and gone".repeat(19);
    int at = twenty.length();
    Check.goodSentence(TWO, twenty, 20);
    for (String one : new String[] {"gone", "whole", "armed", "robbed", "with g", "with x", "left < 5", "today", "hurt ?",
        "number", "not gone", "not", "(gone)", "("}) {
      Check.badSentence(TWO, twenty + " and  " + one, 4, at + 6);
      Check.badSentence(TWO, twenty + " or " + one, 4, at + 4);
    }
  }

  private static void ninthWithin() {
    Check.says("a ninth within (at its first TOKEN)");
    for (String one : new String[] {"gone", "whole", "armed", "robbed", "with g", "with x", "left < 5", "today", "hurt ?",
        "number", "not gone", "not", "(gone)", "("}) {
      Check.badSentence(TWO, "not not not not ((((" + one, 4, 20);
      Check.badSentence(TWO, "(((( not not not not  " + one, 4, 22);
      Check.badSentence(TWO, "(((((((gone and not  " + one, 4, 21);
    }
    Check.goodSentence(TWO, "(((((((gone and gone)))))))", 9);
    Check.badSentence(TWO, "(((((((gone and (gone))))))))", 4, 17);
  }
}
