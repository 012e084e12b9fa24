/** Promises 9 (grate), 10 (take), 11 (put), 12 (swap), 13 (file) and 15 (undo). */
public final class ActsTest {
  public static void main(String[] args) {
    grate();
    whyNotGrate();
    ends();
    knuckles();
    take();
    put();
    swap();
    file();
    undo();
    undoEach();
    Check.finish();
  }

  private static void grate() {
    GraterOrder x = Check.with(Check.ORDER);
    Check.due("fine", x.grate(0, 0, 0), 0);
    Check.due("left", x.brother(0, 0), 39);
    Check.due("coarse", x.grate(0, 0, 1), 0);
    Check.due("left", x.brother(0, 0), 35);
    Check.due("strokes", x.grater(0, 2), 2);
    Check.due("slice", x.grate(0, 0, 2), 0);
    Check.due("left", x.brother(0, 0), 23);
    Check.due("a slice is two strokes", x.grater(0, 2), 4);
    Check.due("today", x.brother(0, 4), 17);
    Check.due("heap", x.now(1), 17);
    Check.due("another's", x.grate(1, 0, 1), 0);
    Check.due("as hard as that one is", x.brother(0, 0), 18);
    Check.due("by him", x.brother(1, 4), 5);
    Check.due("not by that one", x.brother(0, 4), 17);
    Check.due("from", x.from(1, 0), 5);
    Check.due("his own stays", x.brother(1, 0), 12);
    Check.due("his grater's stroke", x.grater(1, 2), 1);
    Check.due("bounded", x.grate(1, 2, 2), 0);
    Check.due("gone", x.brother(2, 0), 0);
    Check.due("3 alone fell", x.brother(1, 4), 8);
    Check.due("heap then", x.now(1), 25);
    for (int bad : new int[] {-1, 3, 7, 100, Integer.MIN_VALUE}) {
      Check.due("no such brother", x.grate(bad, 0, 0), -1);
      Check.due("no such block", x.grate(0, bad, 0), -1);
      Check.due("no such side", x.grate(0, 0, bad), -1);
    }
    Check.due("nothing fell", x.now(1), 25);
  }

  private static void whyNotGrate() {
    GraterOrder x = Check.with("brother a 9 5;brother b 2 0;brother c 1 0;grater g 5 1;grater h 1 1;holds a g;holds c h;");
    Check.due("no grater", x.grate(1, 1, 1), 1);
    Check.due("nothing comes off", x.grate(0, 0, 1), 4);
    Check.due("nor by a slice", x.grate(0, 0, 2), 4);
    Check.due("but fine", x.grate(0, 0, 0), 0);
    Check.due("a small block may be sliced", x.grate(0, 1, 2), 0);
    Check.due("it is gone", x.grate(0, 1, 0), 2);
    Check.due("no grater is the least", x.grate(1, 1, 0), 1);
    Check.due("the last one", x.grate(2, 2, 0), 0);
    Check.due("gone is less than blunt", x.grate(2, 2, 0), 2);
    Check.due("blunt", x.grater(1, 3), 0);
    Check.due("blunt, fine", x.grate(2, 0, 0), 4);
    Check.due("nothing changed by it", x.grater(1, 2), 1);
    Check.due("nor today", x.brother(2, 4), 1);
  }

  private static void ends() {
    GraterOrder x = Check.with("brother a 7 0;brother b 4 0;brother c 3 0;grater g 3 60;grater h 1 60;holds a g;holds b h;");
    Check.due("7 coarse", x.grate(0, 0, 1), 0);
    Check.due("4 left is no end", x.brother(0, 0), 4);
    Check.due("4 fine", x.grate(1, 0, 0), 0);
    Check.due("3 left is an end: coarse", x.grate(0, 0, 1), 3);
    Check.due("slice", x.grate(0, 0, 2), 3);
    Check.due("fine", x.grate(0, 0, 0), 0);
    Check.due("fine to the last", x.grate(0, 0, 0), 0);
    Check.due("1 left, coarse", x.grate(0, 0, 1), 3);
    Check.due("fine at last", x.grate(0, 0, 0), 0);
    Check.due("gone", x.grate(0, 0, 1), 2);
    Check.due("a block of 4, fine", x.grate(0, 1, 0), 0);
    Check.due("is an end then", x.grate(0, 1, 1), 3);
    Check.due("a block of 3 never is", x.grate(1, 2, 1), 0);
    Check.due("2 of 3, coarse", x.grate(0, 2, 1), 0);
    Check.due("gone by it", x.brother(2, 0), 0);
    GraterOrder y = Check.with("brother a 4 5;grater g 5 60;holds a g;");
    y.grate(0, 0, 0);
    Check.due("an end is less than nothing off", y.grate(0, 0, 1), 3);
  }

  private static void knuckles() {
    GraterOrder x = Check.with("brother a 13 0;brother b 10 0;grater g 1 60;holds a g;");
    Check.due("slice of 13", x.grate(0, 0, 2), 0);
    Check.due("slice of 10 left", x.grate(0, 0, 2), 0);
    Check.due("does not hurt", x.brother(0, 5), 0);
    Check.due("7 left", x.brother(0, 0), 7);
    Check.due("coarse", x.grate(0, 0, 1), 0);
    Check.due("does not hurt", x.brother(0, 5), 0);
    Check.due("slice of 6 left", x.grate(0, 0, 2), 0);
    Check.due("hurts", x.brother(0, 5), 1);
    Check.due("10 of another, fine", x.grate(0, 1, 0), 0);
    Check.due("9 of another, slice", x.grate(0, 1, 2), 0);
    Check.due("hurts himself", x.brother(0, 5), 2);
    Check.due("not that one", x.brother(1, 5), 0);
  }

  private static void take() {
    GraterOrder x = Check.with(Check.ORDER);
    Check.due("he has one", x.take(0, 2), 1);
    Check.due("he has that one", x.take(0, 0), 1);
    Check.due("he has one, another has it: the least", x.take(0, 1), 1);
    Check.due("another one has it", x.take(2, 1), 2);
    Check.due("taken", x.take(2, 2), 0);
    Check.due("he has it", x.brother(2, 3), 2);
    Check.due("who has it", x.grater(2, 4), 2);
    Check.due("no such brother", x.take(3, 0), -1);
    Check.due("no such grater", x.take(0, 3), -1);
    Check.due("no such grater", x.take(0, -1), -1);
    Check.due("no such brother", x.take(-1, 0), -1);
  }

  private static void put() {
    GraterOrder x = Check.with(Check.ORDER);
    Check.due("he has none", x.put(2), 1);
    Check.due("put", x.put(1), 0);
    Check.due("nobody has it", x.grater(1, 4), -1);
    Check.due("he has none now", x.put(1), 1);
    Check.due("another takes it", x.take(2, 1), 0);
    Check.due("no such", x.put(3), -1);
    Check.due("no such", x.put(-1), -1);
  }

  private static void swap() {
    GraterOrder x = Check.with(Check.ORDER + "brother dan 9 0;");
    Check.due("alike", x.swap(0, 0), 1);
    Check.due("alike without one", x.swap(2, 2), 1);
    Check.due("neither", x.swap(2, 3), 2);
    Check.due("both", x.swap(0, 1), 0);
    Check.due("his", x.brother(0, 3), 1);
    Check.due("the other's", x.brother(1, 3), 0);
    Check.due("one alone", x.swap(0, 2), 0);
    Check.due("given", x.brother(0, 3), -1);
    Check.due("got", x.brother(2, 3), 1);
    Check.due("back", x.swap(0, 2), 0);
    Check.due("got back", x.brother(0, 3), 1);
    Check.due("no such", x.swap(0, 4), -1);
    Check.due("no such", x.swap(-1, 0), -1);
    Check.due("no such, alike", x.swap(9, 9), -1);
  }

  private static void file() {
    GraterOrder x = Check.with(Check.ORDER);
    Check.due("no strokes", x.file(0), 1);
    x.grate(0, 0, 2);
    x.grate(0, 0, 2);
    Check.due("blunter", x.grater(0, 3), 4);
    Check.due("filed", x.file(0), 0);
    Check.due("no strokes since", x.grater(0, 2), 0);
    Check.due("sharp", x.grater(0, 3), 5);
    Check.due("a file less", x.now(3), 1);
    x.grate(0, 0, 0);
    Check.due("filed again", x.file(0), 0);
    x.grate(0, 0, 0);
    Check.due("no files", x.file(0), 2);
    Check.due("no strokes is the least", x.file(1), 1);
    Check.due("a grater that nobody has", x.file(2), 1);
    Check.due("no such", x.file(3), -1);
    Check.due("no such", x.file(-1), -1);
  }

  private static void undo() {
    GraterOrder x = Check.with(Check.ORDER);
    Check.due("none", x.undo(), -1);
    for (int i = 0; i < 10; i++) {
      x.grate(0, 0, 0);
    }
    Check.due("30 left", x.brother(0, 0), 30);
    for (int i = 7; i >= 0; i--) {
      Check.due("undo", x.undo(), i);
    }
    Check.due("eight undone", x.brother(0, 0), 38);
    Check.due("strokes too", x.grater(0, 2), 2);
    Check.due("today too", x.brother(0, 4), 2);
    Check.due("heap too", x.now(1), 2);
    Check.due("none more", x.undo(), -1);
    x.grate(0, 0, 0);
    x.grate(2, 2, 0);
    x.days(99);
    x.drawn(0, 1);
    x.take(0, 0);
    Check.due("what was not done is none", x.undo(), 0);
    Check.due("two grated", x.brother(0, 0), 38);
  }

  private static void undoEach() {
    GraterOrder x = Check.with(Check.ORDER);
    x.grate(0, 1, 1);
    x.put(0);
    x.take(0, 2);
    x.swap(0, 1);
    x.file(0);
    x.days(2);
    x.drawn(3, 5);
    Check.book(x, "day 4;ben puts;", 1);
    Check.due("day", x.now(0), 9);
    Check.sentence(x, "gone or armed");
    Check.due("undo the book", x.undo(), 7);
    Check.due("day", x.now(0), 5);
    Check.due("he has it again", x.brother(1, 3), 2);
    Check.due("undo drawn", x.undo(), 6);
    Check.due("day", x.now(0), 2);
    Check.due("undo days", x.undo(), 5);
    Check.due("day", x.now(0), 0);
    Check.due("heap", x.now(1), 3);
    Check.due("no oddness", x.now(7), 0);
    Check.due("a file less", x.now(3), 1);
    Check.due("undo file", x.undo(), 4);
    Check.due("files", x.now(3), 2);
    Check.due("strokes", x.grater(0, 2), 1);
    Check.due("undo swap", x.undo(), 3);
    Check.due("his", x.brother(0, 3), 2);
    Check.due("undo take", x.undo(), 2);
    Check.due("none", x.brother(0, 3), -1);
    Check.due("undo put", x.undo(), 1);
    Check.due("his first", x.brother(0, 3), 0);
    Check.due("undo grate", x.undo(), 0);
    Check.due("whole", x.brother(1, 0), 12);
    Check.due("nothing from", x.from(0, 1), 0);
    Check.due("the sentence stays", x.said(-1), 2);
    Check.due("none", x.undo(), -1);
    Check.book(x, "day 4;", 0);
    Check.due("a book judged is none", x.undo(), -1);
    Check.book(x, "cid puts;day 4;", 1);
    Check.due("a book lived as far as its first line", x.undo(), 0);
    Check.due("a fault", Check.book(x, "day 4", 1), -7);
    Check.due("is none", x.undo(), -1);
  }
}
