import java.io.IOException;
import java.nio.charset.StandardCharsets;
import java.nio.file.Files;
import java.nio.file.Path;
import java.util.NoSuchElementException;

/** What the tests share: counting wrong answers, and texts put on the tape. */
final class Check {
  /** Three brothers, three graters; abel and ben hold theirs, cid holds none. */
  static final String ORDER =
      "brother abel 40 1; brother ben 12 2; brother cid 3 0;\n"
      + "grater rasp 5 3; grater mill 6 10; grater zest 1 1;\n"
      + "holds abel rasp; holds ben mill; even 4; files 2; draught 6;";

  private static int wrong = 0;
  private static int asked = 0;
  private static String document = null;
  private static String sentence = "";
  private static int askedBefore = 0;

  private Check() { }

  static void due(String what, long got, long want) {
    asked++;
    if (got != want) {
      wrong++;
      System.out.println(sentence + what + ": answered " + got + ", due is " + want);
    }
  }

  /**
   * The answers asked from here on are held against these words of the document. They must stand
   * there as they are written here, so that no test goes by words that the document has no more.
   */
  static void says(String words) {
    closeSentence();
    sentence = "";
    due("the document says '" + words + "'", documentHas(words), true);
    sentence = "[" + words + "] ";
    askedBefore = asked;
  }

  private static void closeSentence() {
    if (!sentence.isEmpty()) {
      boolean some = asked > askedBefore;
      due("answers are asked for it", some, true);
    }
  }

  private static boolean documentHas(String words) {
    if (document == null) {
      try {
        document = Files.readString(Path.of("../shared/DOC.md"), StandardCharsets.ISO_8859_1).replaceAll("\\s+", " ");
      } catch (IOException e) {
        document = "";
      }
    }
    return document.contains(words);
  }

  static void due(String what, boolean got, boolean want) {
    due(what, got ? 1 : 0, want ? 1 : 0);
  }

  static void finish() {
    closeSentence();
    System.out.println(asked + " answers, " + wrong + " wrong");
    System.exit(wrong == 0 && asked > 0 ? 0 : 1);
  }

  /** Puts a text, sign by sign a byte, behind what the tape has. */
  static void feed(GraterOrder x, String text) {
    int goal = x.count(4) + text.length();
    for (int at = 0; at < text.length(); at += 20) {
      x.feed(number(text, at), number(text, at + 4), number(text, at + 8),
          number(text, at + 12), number(text, at + 16));
    }
    x.end(goal);
  }

  static int number(String text, int at) {
    int number = 0;
    for (int i = at; i < at + 4; i++) {
      number = number << 8 | (i < text.length() ? text.charAt(i) : 0);
    }
    return number;
  }

  static int order(GraterOrder x, String text) {
    feed(x, text);
    return x.order();
  }

  static int book(GraterOrder x, String text, int lives) {
    feed(x, text);
    return x.book(lives);
  }

  static int sentence(GraterOrder x, String text) {
    feed(x, text);
    return x.sentence();
  }

  static int heaps(GraterOrder x, int n) {
    feed(x, "" + (char) (n >> 8) + (char) (n & 255));
    return x.heaps();
  }

  static GraterOrder with(String text) {
    GraterOrder x = new GraterOrder();
    int answer = order(x, text);
    if (answer < 0) {
      due("order of a test: " + text, answer, 0);
    }
    return x;
  }

  static String tag(GraterOrder x, int b) {
    StringBuilder tag = new StringBuilder();
    int length = x.tag(b);
    for (int i = 0; i < length; i++) {
      tag.append((char) x.byteAt(i));
    }
    return tag.toString();
  }

  static void text(String what, String got, String want) {
    asked++;
    if (!got.equals(want)) {
      wrong++;
      System.out.println(sentence + what + ": answered '" + got + "', due is '" + want + "'");
    }
  }

  /** All that the calls of the face tell and leave as it is, but for what can be undone. */
  static String all(GraterOrder x) {
    StringBuilder all = new StringBuilder();
    int brothers = x.count(0);
    int graters = x.count(1);
    for (int i = 0; i < 8; i++) {
      all.append(x.now(i)).append(i < 5 ? " " + x.count(i) : "").append(i < 4 ? " " + x.told(i) : "").append(',');
      all.append(i < 3 ? " " + x.strokesOf(i) : "").append(" ").append(x.byteAt(3 * i)).append(';');
    }
    for (int b = 0; b < brothers; b++) {
      for (int what = 0; what < 8; what++) {
        all.append(x.brother(b, what)).append(' ');
      }
      for (int c = 0; c < brothers; c++) {
        all.append(x.from(b, c)).append(',');
      }
      all.append(x.heapOf(b)).append(' ').append(x.dealtOf(b)).append(' ').append(x.said(b)).append(';');
    }
    for (int g = 0; g < graters; g++) {
      for (int what = 0; what < 5; what++) {
        all.append(x.grater(g, what)).append(' ');
      }
    }
    return all.append(x.fault()).append(' ').append(x.look()).append(' ').append(x.said(-1)).toString();
  }

  /** The ORDER above with a day lived, and something told by each call that tells. */
  static GraterOrder lived() {
    GraterOrder x = with(ORDER);
    x.grate(0, 0, 2);
    x.grate(0, 1, 1);
    x.days(1);
    x.grate(1, 0, 1);
    x.strokes(0, 13);
    heaps(x, 3);
    x.dealt();
    x.tag(0);
    book(x, "day 1;cid puts;", 0);
    sentence(x, "armed");
    return x;
  }

  static void goodOrder(String text, int lines) {
    GraterOrder x = new GraterOrder();
    due("order '" + text + "'", order(x, text), lines);
    due("fault of '" + text + "'", x.fault(), 0);
  }

  static void badOrder(String text, int kind, int place) {
    GraterOrder x = new GraterOrder();
    due("order '" + text + "'", order(x, text), -1 - place);
    due("fault of '" + text + "'", x.fault(), kind);
  }

  static void goodBook(String order, String text, int lines) {
    GraterOrder x = with(order);
    due("book '" + text + "'", book(x, text, 0), -1);
    due("fault of '" + text + "'", x.fault(), 0);
    due("lines of '" + text + "'", x.told(1), lines);
  }

  static void badBook(String order, String text, int kind, int place) {
    GraterOrder x = with(order);
    due("book '" + text + "'", book(x, text, 0), -2 - place);
    due("fault of '" + text + "'", x.fault(), kind);
  }

  static void goodSentence(String order, String text, int ones) {
    GraterOrder x = with(order);
    due("sentence '" + text + "'", sentence(x, text), ones);
    due("fault of '" + text + "'", x.fault(), 0);
  }

  static void badSentence(String order, String text, int kind, int place) {
    GraterOrder x = with(order);
    due("sentence '" + text + "'", sentence(x, text), -1 - place);
    due("fault of '" + text + "'", x.fault(), kind);
  }

  static void throwsNoSuch(GraterOrder x, int b, int what) {
    boolean thrown = false;
    try {
      x.brother(b, what);
    } catch (NoSuchElementException e) {
      thrown = true;
    }
    due("brother(" + b + ", " + what + ") throws", thrown, true);
  }

  static void timeThrowsNoSuch(GraterOrder x, int b, int what) {
    boolean thrown = false;
    try {
      x.time(b, what);
    } catch (NoSuchElementException e) {
      thrown = true;
    }
    due("time(" + b + ", " + what + ") throws", thrown, true);
  }

  /** An order of so many brothers (a, b, ..) and graters (p, q, ..). */
  static String crowd(int brothers, int graters) {
    StringBuilder text = new StringBuilder();
    for (int b = 0; b < brothers; b++) {
      text.append("brother ").append((char) ('a' + b)).append(" 50 0;");
    }
    for (int g = 0; g < graters; g++) {
      text.append("grater ").append((char) ('p' + g)).append(" 5 60;");
    }
    return text.toString();
  }

  static String blanks(int n) {
    return " ".repeat(n);
  }
}
