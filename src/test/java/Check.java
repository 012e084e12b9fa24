import java.util.NoSuchElementException;

/** What the tests share: counting wrong answers, and texts put on the tape. */
final class Check {
  /** Three brothers, three graters; abel and ben hold theirs, cid holds none. */
  static final String ORDER =
      "brother abel 40 1; brother ben 12 2; brother cid 3 0;\n"
      + "grater rasp 5 3; grater mill 6 10; grater zest 1 1;\n"
      + "holds abel rasp; holds ben mill; even 4; files 2; draught 6;";

  private static int wrong = 0;
  private static int asked = 0;

  private Check() { }

  static void due(String what, long got, long want) {
    asked++;
    if (got != want) {
      wrong++;
      System.out.println(what + ": answered " + got + ", due is " + want);
    }
  }

  static void due(String what, boolean got, boolean want) {
    due(what, got ? 1 : 0, want ? 1 : 0);
  }

  static void finish() {
    System.out.println(asked + " answers, " + wrong + " wrong");
    System.exit(wrong == 0 && asked > 0 ? 0 : 1);
  }

  /** Puts a text, sign by sign a byte, behind what the tape has. */
  static void feed(GraterOrder x, String text) {
    int goal = x.count(4) + text.length();
    for (int at = 0; at < text.length(); at += 20) {
      x.feed(number(text, at), number(text, at + 4), number(text, at + 8),
          number(text, at + 12), number(text, at + 16));
    }
    x.end(goal);
  }

  static int number(String text, int at) {
    int number = 0;
    for (int i = at; i < at + 4; i++) {
      number = number << 8 | (i < text.length() ? text.charAt(i) : 0);
    }
    return number;
  }

  static int order(GraterOrder x, String text) {
    feed(x, text);
    return x.order();
  }

  static int book(GraterOrder x, String text, int lives) {
    feed(x, text);
    return x.book(lives);
  }

  static int sentence(GraterOrder x, String text) {
    feed(x, text);
    return x.sentence();
  }

  static int heaps(GraterOrder x, int n) {
    feed(x, "" + (char) (n >> 8) + (char) (n & 255));
    return x.heaps();
  }

  static GraterOrder with(String text) {
    GraterOrder x = new GraterOrder();
    int answer = order(x, text);
    if (answer < 0) {
      due("order of a test: " + text, answer, 0);
    }
    return x;
  }

  static String tag(GraterOrder x, int b) {
    StringBuilder tag = new StringBuilder();
    int length = x.tag(b);
    for (int i = 0; i < length; i++) {
      tag.append((char) x.byteAt(i));
    }
    return tag.toString();
  }

  static void text(String what, String got, String want) {
    asked++;
    if (!got.equals(want)) {
      wrong++;
      System.out.println(what + ": answered '" + got + "', due is '" + want + "'");
    }
  }

  static void throwsNoSuch(GraterOrder x, int b, int what) {
    boolean thrown = false;
    try {
      x.brother(b, what);
    } catch (NoSuchElementException e) {
      thrown = true;
    }
    due("brother(" + b + ", " + what + ") throws", thrown, true);
  }

  static void timeThrowsNoSuch(GraterOrder x, int b, int what) {
    boolean thrown = false;
    try {
      x.time(b, what);
    } catch (NoSuchElementException e) {
      thrown = true;
    }
    due("time(" + b + ", " + what + ") throws", thrown, true);
  }

  /** An order of so many brothers (a, b, ..) and graters (p, q, ..). */
  static String crowd(int brothers, int graters) {
    StringBuilder text = new StringBuilder();
    for (int b = 0; b < brothers; b++) {
      text.append("brother ").append((char) ('a' + b)).append(" 50 0;");
    }
    for (int g = 0; g < graters; g++) {
      text.append("grater ").append((char) ('p' + g)).append(" 5 60;");
    }
    return text.toString();
  }

  static String blanks(int n) {
    return " ".repeat(n);
  }
}
