/** Promises 25 (time), 26 (from), 27 (thief), 28 (tag) and 29 (byteAt). */
public final class TimeTest {
  public static void main(String[] args) {
    time();
    thieves();
    tags();
    Check.finish();
  }

  private static void part(GraterOrder x, int b, int above, int below) {
    Check.due("time(" + b + ", 0)", x.time(b, 0), above);
    Check.due("time(" + b + ", 1)", x.time(b, 1), below);
  }

  private static void time() {
    GraterOrder x = Check.with(Check.ORDER);
    part(x, 0, 1, 1);
    x.grate(0, 0, 1);
    part(x, 0, 9, 10);
    x.grate(0, 0, 2);
    part(x, 0, 3, 5);
    x.grate(0, 0, 0);
    part(x, 0, 23, 40);
    x.grate(0, 2, 1);
    part(x, 2, 0, 1);
    Check.timeThrowsNoSuch(x, 3, 0);
    Check.timeThrowsNoSuch(x, -1, 0);
    Check.timeThrowsNoSuch(x, 0, 2);
    Check.timeThrowsNoSuch(x, 0, -1);
    part(x, 0, 23, 40);
  }

  private static void thieves() {
    GraterOrder x = Check.with(Check.ORDER + "brother dan 200 0;");
    Check.due("nobody", x.thief(3), -1);
    x.take(2, 2);
    x.grate(2, 3, 0);
    Check.due("cid", x.thief(3), 2);
    Check.due("from", x.from(2, 3), 1);
    x.file(2);
    x.grate(1, 3, 0);
    Check.due("the first of like ones", x.thief(3), 1);
    x.grate(0, 3, 1);
    Check.due("the most", x.thief(3), 0);
    Check.due("from", x.from(0, 3), 5);
    Check.due("robbed of", x.brother(3, 7), 7);
    x.grate(1, 1, 1);
    Check.due("his own is no theft", x.thief(1), -1);
    Check.due("but told", x.from(1, 1), 4);
    Check.due("nor is it others'", x.brother(1, 7), 0);
    x.days(2);
    Check.due("so far", x.from(0, 3), 5);
    Check.due("the other way", x.from(3, 0), 0);
    Check.due("no such", x.from(4, 0), -1);
    Check.due("no such", x.from(0, 4), -1);
    Check.due("no such", x.from(-1, 0), -1);
    Check.due("no such", x.from(0, -1), -1);
    Check.due("no such", x.thief(4), -1);
    Check.due("no such", x.thief(-1), -1);
  }

  private static void tags() {
    GraterOrder x = Check.with(Check.ORDER);
    Check.due("ahead of any", x.byteAt(0), -1);
    Check.text("tag", Check.tag(x, 0), "abel has 40 of 40 by rasp");
    Check.due("length", x.tag(0), 25);
    Check.due("byteAt(24)", x.byteAt(24), 'p');
    Check.due("byteAt(25)", x.byteAt(25), -1);
    Check.due("byteAt(-1)", x.byteAt(-1), -1);
    Check.due("no such", x.tag(3), -1);
    Check.due("no such", x.tag(-1), -1);
    Check.due("the latest stays", x.byteAt(0), 'a');
    Check.text("without a grater", Check.tag(x, 2), "cid has 3 of 3");
    Check.due("shorter then", x.byteAt(14), -1);
    x.grate(0, 0, 2);
    x.put(0);
    x.take(2, 0);
    Check.text("put down", Check.tag(x, 0), "abel has 28 of 40");
    x.grate(2, 2, 2);
    Check.text("gone", Check.tag(x, 2), "cid has 0 of 3 by rasp");
    x.grate(2, 0, 0);
    Check.due("as it was", x.byteAt(8), '0');
    GraterOrder y = Check.with("brother abcdefg 240 0;grater hijklmn 9 9;holds abcdefg hijklmn;");
    Check.text("the longest", Check.tag(y, 0), "abcdefg has 240 of 240 by hijklmn");
    y.grate(0, 0, 2);
    y.grate(0, 0, 2);
    y.grate(0, 0, 2);
    y.grate(0, 0, 2);
    y.grate(0, 0, 2);
    Check.text("by a worn one", Check.tag(y, 0), "abcdefg has 105 of 240 by hijklmn");
    Check.order(y, "");
    Check.due("the latest tag of an order ahead", y.byteAt(0), 'a');
  }
}
