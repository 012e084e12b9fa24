/** Promises 36 (image) and 37 (restore). */
public final class ImageTest {
  public static void main(String[] args) {
    places();
    kept();
    whatStays();
    Check.finish();
  }

  private static void places() {
    GraterOrder x = new GraterOrder();
    Check.due("restore(0) of nothing", x.restore(0), false);
    Check.due("restore(1) of nothing", x.restore(1), false);
    Check.due("image(2)", x.image(2), false);
    Check.due("image(-1)", x.image(-1), false);
    Check.due("image(1)", x.image(1), true);
    Check.due("restore(0) still", x.restore(0), false);
    Check.due("restore(1)", x.restore(1), true);
    Check.due("restore(2)", x.restore(2), false);
    Check.due("restore(-1)", x.restore(-1), false);
  }

  private static void kept() {
    GraterOrder x = Check.with(Check.ORDER);
    x.grate(0, 0, 2);
    x.grate(0, 1, 1);
    x.grate(0, 1, 2);
    x.days(2);
    x.grate(1, 0, 1);
    x.file(0);
    x.put(0);
    Check.sentence(x, "armed");
    Check.due("image", x.image(0), true);
    Check.order(x, "brother zoe 9 0;grater saw 2 2;even 1;draught 1;");
    x.days(9);
    Check.sentence(x, "number = 0");
    Check.due("image", x.image(1), true);
    Check.due("restore", x.restore(0), true);
    Check.due("brothers", x.count(0), 3);
    Check.due("graters", x.count(1), 3);
    Check.due("even", x.count(2), 4);
    Check.due("draught", x.count(3), 6);
    int[] now = {2, 5, 0, 1, 0, 2, 29, 21 + 8 + 8};
    for (int what = 0; what < 8; what++) {
      Check.due("now(" + what + ")", x.now(what), now[what]);
    }
    int[] abel = {23, 40, 1, -1, 0, 1, 21, 5};
    for (int what = 0; what < 8; what++) {
      Check.due("brother(0, " + what + ")", x.brother(0, what), abel[what]);
    }
    Check.text("name", Check.tag(x, 1), "ben has 3 of 12 by mill");
    Check.due("strokes", x.grater(1, 2), 1);
    Check.due("teeth", x.grater(1, 0), 6);
    Check.due("from", x.from(0, 1), 9);
    Check.due("sentence", x.said(-1), 1);
    Check.due("sentence", x.said(0), 1);
    Check.due("names are read by it", Check.book(x, "abel takes zest;", 0), -1);
    Check.due("restore the other", x.restore(1), true);
    Check.due("brothers", x.count(0), 1);
    Check.due("day", x.now(0), 9);
    Check.due("sentence", x.said(0), 0);
    x.days(1);
    Check.due("again", x.restore(1), true);
    Check.due("day", x.now(0), 9);
    x.restore(0);
    x.image(1);
    Check.due("kept anew", x.restore(1), true);
    Check.due("brothers", x.count(0), 3);
  }

  private static void whatStays() {
    GraterOrder x = Check.with(Check.ORDER);
    x.image(0);
    x.grate(0, 0, 1);
    Check.due("an image changes no undoing", x.undo(), 0);
    x.grate(0, 0, 1);
    x.image(1);
    x.strokes(0, 13);
    Check.heaps(x, 8);
    x.dealt();
    x.tag(0);
    Check.book(x, "day 1;cid puts;", 0);
    Check.sentence(x, "gone");
    Check.due("a fault", Check.sentence(x, "with abel"), -6);
    x.feed(1, 2, 3, 4, 5);
    Check.due("restore", x.restore(0), true);
    Check.due("tape", x.count(4), 20);
    Check.due("fault", x.fault(), 3);
    Check.due("strokesOf", x.strokesOf(2), 1);
    Check.due("heapOf", x.heapOf(1), 2);
    Check.due("look", x.look(), 0);
    Check.due("dealtOf", x.dealtOf(1), 1);
    Check.due("byteAt", x.byteAt(9), '3');
    Check.due("told", x.told(0), 21);
    Check.due("no sentence", x.said(-1), -1);
    Check.due("whole", x.brother(0, 0), 40);
    Check.due("nothing can be undone", x.undo(), -1);
    x.grate(0, 0, 1);
    Check.due("a restore of none leaves what can be", x.restore(2), false);
    Check.due("undo", x.undo(), 0);
  }
}
