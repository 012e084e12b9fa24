import java.util.ArrayList;
import java.util.List;
import java.util.NoSuchElementException;
import java.util.Random;

/** Random runs of calls on the class and on the plain model: every answer must be alike. */
public final class DifferentialTest {
  private static final int RUNS = 15000;
  /** What an object answers later is free. */
  private static final int MOST_CALLS = 512;
  private static final int THROWN = Integer.MIN_VALUE;

  private final Random random;
  private final GraterOrder x = new GraterOrder();
  private final Model m = new Model();
  private final StringBuilder log = new StringBuilder();
  private List<String> brothers = new ArrayList<>();
  private List<String> graters = new ArrayList<>();
  private List<String> newBrothers = new ArrayList<>();
  private List<String> newGraters = new ArrayList<>();
  private boolean wrong = false;
  private int calls = 0;

  private DifferentialTest(int seed) { random = new Random(seed); }

  public static void main(String[] args) {
    int runs = args.length > 0 ? Integer.parseInt(args[0]) : RUNS;
    int first = args.length > 1 ? Integer.parseInt(args[1]) : 1;
    for (int i = 0; i < runs; i++) {
      DifferentialTest test = new DifferentialTest(first + i);
      test.run();
      Check.due("run by seed " + (first + i), test.wrong, false);
      if (test.wrong) {
        System.out.println(test.log);
        break;
      }
    }
    Check.finish();
  }

  private int below(int n) { return random.nextInt(n); }
  private boolean chance(int ofHundred) { return below(100) < ofHundred; }
  private String one(String... of) { return of[below(of.length)]; }
  private String oneOf(List<String> of, String otherwise) { return of.isEmpty() ? otherwise : of.get(below(of.size())); }

  private void same(String call, int got, int want) {
    calls++;
    log.append(call).append(" -> ").append(got).append('\n');
    if (got != want && !wrong && calls <= MOST_CALLS) {
      wrong = true;
      log.append("   due is ").append(want).append('\n');
    }
  }
  private void same(String call, boolean got, boolean want) { same(call, got ? 1 : 0, want ? 1 : 0); }

  private void feed(String text) {
    int before = x.count(4);
    calls++;
    log.append("text: ").append(text).append('\n');
    for (int at = 0; at < text.length(); at += 20) {
      int a = Check.number(text, at), b = Check.number(text, at + 4), c = Check.number(text, at + 8);
      int d = Check.number(text, at + 12), e = Check.number(text, at + 16);
      same("feed", x.feed(a, b, c, d, e), m.feed(a, b, c, d, e));
    }
    same("end", x.end(before + text.length()), m.end(before + text.length()));
  }

  private void run() {
    int steps = chance(30) ? 400 : 5 + below(60);
    if (chance(95)) order(chance(90));
    for (int i = chance(10) ? 0 : 7; i < 7; i++) {
      int n = 55 + below(6);
      same("days " + n, x.days(n), m.days(n));
    }
    for (int i = 0; i < steps && calls < MOST_CALLS - 100 && !wrong; i++) {
      step();
      if (chance(15)) observe(25);
    }
    observe(MOST_CALLS - calls);
  }

  private int b() { return chance(3) ? below(20) - 8 : below(Math.max(1, brothers.size())); }
  private int g() { return chance(3) ? below(20) - 8 : below(Math.max(1, graters.size())); }
  private int side() { return chance(3) ? below(8) - 3 : below(3); }

  private void step() {
    int b = b(), c = b(), g = g(), s = side(), n = below(70) - 3, seed = random.nextInt();
    switch (below(42)) {
      case 0: order(chance(50)); break;
      case 1: case 2: case 3: case 4: book(chance(70)); break;
      case 5: case 6: case 7: sentence(chance(70)); break;
      case 8: case 9: heaps(); break;
      case 10: same("days " + n, x.days(n), m.days(n)); break;
      case 11: n = below(4); same("days " + n, x.days(n), m.days(n)); break;
      case 12: case 13: same("take " + b + " " + g, x.take(b, g), m.take(b, g)); break;
      case 14: same("put " + b, x.put(b), m.put(b)); break;
      case 15: same("swap " + b + " " + c, x.swap(b, c), m.swap(b, c)); break;
      case 16: same("file " + g, x.file(g), m.file(g)); break;
      case 17: case 18: same("undo", x.undo(), m.undo()); break;
      case 19: same("curl", x.curl(g, b, s), m.curl(g, b, s)); break;
      case 20: n = below(130) - 4; same("strokes " + b + " " + n, x.strokes(b, n), m.strokes(b, n)); break;
      case 21: if (chance(30)) same("dealt", x.dealt(), m.dealt()); break;
      case 22: same("gone", x.gone(b), m.gone(b)); break;
      case 23: same("tag " + b, x.tag(b), m.tag(b)); break;
      case 24: same("drawn " + n + " " + seed, x.drawn(n, seed), m.drawn(n, seed)); break;
      case 25: n = 1 + below(3); same("drawn " + n + " " + seed, x.drawn(n, seed), m.drawn(n, seed)); break;
      case 26: n = below(33) - 1; same("odds " + b + " " + n + " " + seed, x.odds(b, n, seed), m.odds(b, n, seed)); break;
      case 27: n = below(4) - 1; same("image " + n, x.image(n), m.image(n)); break;
      case 28: n = below(4) - 1; restore(n); break;
      case 29: n = below(3) == 0 ? 2 : -1; same("book " + n, x.book(n), m.book(n)); break;
      case 30: feed("junk " + (char) below(256)); if (chance(90)) same("end 0", x.end(0), m.end(0)); break;
      default: same("grate " + b + " " + c + " " + s, x.grate(b, c, s), m.grate(b, c, s)); break;
    }
  }

  private void restore(int k) {
    same("restore " + k, x.restore(k), m.restore(k));
    brothers = new ArrayList<>();
    graters = new ArrayList<>();
    int size = x.count(0);
    calls++;
    for (int b = 0; b < size; b++) {
      String tag = Check.tag(x, b);
      calls += 1 + tag.length();
      brothers.add(tag.split(" ")[0]);
      m.tag(b);
    }
    for (String name : NAMES) if (!brothers.contains(name)) graters.add(name);
  }

  private int brotherOr(boolean model, int b, int what) {
    try {
      return model ? m.brother(b, what) : x.brother(b, what);
    } catch (NoSuchElementException e) {
      return THROWN;
    }
  }
  private int timeOr(boolean model, int b, int what) {
    try {
      return model ? m.time(b, what) : x.time(b, what);
    } catch (NoSuchElementException e) {
      return THROWN;
    }
  }

  /** So many answers about what is so, or was told last; one in a while is asked of what there is not. */
  private void observe(int answers) {
    for (int i = 0; i < answers; i++) {
      int b = b(), c = b(), g = g(), n = below(10) - 1;
      switch (below(17)) {
        case 0: same("fault", x.fault(), m.fault()); break;
        case 1: same("look", x.look(), m.look()); break;
        case 2: case 3: same("now " + n, x.now(n), m.now(n)); break;
        case 4: same("count " + n, x.count(n), m.count(n)); break;
        case 5: n = below(6) - 1; same("told " + n, x.told(n), m.told(n)); break;
        case 6: n = below(7) - 2; same("said " + n, x.said(n), m.said(n)); break;
        case 7: n = side(); same("strokesOf " + n, x.strokesOf(n), m.strokesOf(n)); break;
        case 8: same("heapOf " + n, x.heapOf(n), m.heapOf(n)); break;
        case 9: same("dealtOf " + n, x.dealtOf(n), m.dealtOf(n)); break;
        case 10: same("thief " + b, x.thief(b), m.thief(b)); break;
        case 11: same("gone " + b, x.gone(b), m.gone(b)); break;
        case 12: case 13: same("brother " + b + " " + n, brotherOr(false, b, n), brotherOr(true, b, n)); break;
        case 14: n = below(7) - 1; same("grater " + g + " " + n, x.grater(g, n), m.grater(g, n)); break;
        case 15: same("from " + b + " " + c, x.from(b, c), m.from(b, c)); break;
        default: observeRest(b, g); break;
      }
    }
  }

  private void observeRest(int b, int g) {
    int n = below(40) - 2, what = below(4) - 1, s = side();
    switch (below(3)) {
      case 0: same("byteAt " + n, x.byteAt(n), m.byteAt(n)); break;
      case 1: same("time " + b + " " + what, timeOr(false, b, what), timeOr(true, b, what)); break;
      default: same("curl " + g + " " + b + " " + s, x.curl(g, b, s), m.curl(g, b, s)); break;
    }
  }

  private void order(boolean good) {
    newBrothers = new ArrayList<>();
    newGraters = new ArrayList<>();
    String text = orderText(good);
    if (!good && chance(70)) text = spoil(text);
    if (chance(4)) text = stretch(text, 900);
    if (text.length() > 940) text = text.substring(0, 940);
    feed(text);
    int got = x.order();
    same("order", got, m.order());
    if (got >= 0) {
      brothers = newBrothers;
      graters = newGraters;
    }
  }

  private static final String[] NAMES = {"a", "b", "abel", "ben", "cid", "dorian", "quietus", "rasp", "mill", "zest",
      "plane", "saw", "x", "yy", "zzz", "tag"};

  private String freshName() {
    for (int i = 0; i < 50; i++) {
      String name = one(NAMES);
      if (!newBrothers.contains(name) && !newGraters.contains(name)) return name;
    }
    return "spare";
  }

  private String orderText(boolean good) {
    List<String> lines = new ArrayList<>();
    int bs = below(good ? 8 : 9), gs = below(good ? 7 : 8);
    for (int i = 0; i < bs; i++) {
      String name = good || chance(97) ? freshName() : one(NAMES);
      newBrothers.add(name);
      int size = chance(20) ? 1 + below(5) : 1 + below(240);
      lines.add("brother " + name + " " + (good ? size : below(245)) + " " + (chance(50) ? 0 : below(6)));
    }
    for (int i = 0; i < gs; i++) {
      String name = good || chance(97) ? freshName() : one(NAMES);
      newGraters.add(name);
      lines.add("grater " + name + " " + (1 + below(9)) + " " + (1 + below(chance(50) ? 5 : 60)));
    }
    for (int i = 0; i < Math.min(bs, gs); i++) {
      if (good) {
        if (chance(80)) lines.add("holds " + newBrothers.get(bs - 1 - i) + " " + newGraters.get(i));
      } else if (chance(50)) {
        lines.add("holds " + oneOf(newBrothers, "nobody") + " " + oneOf(newGraters, "nothing"));
      }
    }
    int n = below(good ? 21 : 22);
    if (chance(70)) lines.add(below(lines.size() + 1), "even " + (chance(30) ? below(4) : n));
    if (chance(70)) lines.add(below(lines.size() + 1), "files " + n);
    if (chance(70)) lines.add(below(lines.size() + 1), "draught " + below(13));
    if (!good && chance(10)) lines.add(one("even 1", "files 2", "draught 0"));
    return join(lines);
  }

  private String join(List<String> lines) {
    StringBuilder text = new StringBuilder();
    for (String line : lines) {
      text.append(line.replace(" ", one(" ", " ", " ", "\n", "  "))).append(one(";", ";", " ;", "; ", ";\n"));
    }
    return text.toString();
  }

  private String anyName() { return chance(80) ? oneOf(brothers, "x") : oneOf(graters, "x"); }

  private String bookText(boolean good) {
    List<String> lines = new ArrayList<>();
    int n = chance(8) ? 38 + below(5) : below(12);
    for (int i = 0; i < n; i++) {
      String b = good ? oneOf(brothers, "x") : anyName();
      String c = good ? oneOf(brothers, "x") : anyName();
      String g = good ? oneOf(graters, "x") : chance(80) ? oneOf(graters, "x") : anyName();
      switch (n > 30 ? 2 + below(3) : below(8)) {
        case 0: lines.add(b + " takes " + g); break;
        case 1: lines.add(b + " swaps " + c); break;
        case 2: lines.add(b + " puts"); break;
        case 3: lines.add("file " + g); break;
        case 4: lines.add("day " + (good ? 1 + below(60) : below(64))); break;
        default: lines.add(b + " grates " + c + " " + one("fine", "coarse", "slice")); break;
      }
    }
    return join(lines);
  }

  private void book(boolean good) {
    String text = bookText(good);
    if (!good && chance(60)) text = spoil(text);
    if (chance(5)) text = stretch(text, 400);
    if (text.length() > 900) text = text.substring(0, 900);
    feed(text);
    int lives = below(2);
    same("book " + lives, x.book(lives), m.book(lives));
  }

  private String cond(int depth) {
    String text = all(depth);
    for (int i = 0; i < 3 && chance(35); i++) text += " or " + all(depth);
    return text;
  }
  private String all(int depth) {
    String text = oneText(depth);
    for (int i = 0; i < 3 && chance(35); i++) text += " and " + oneText(depth);
    return text;
  }
  private String oneText(int depth) {
    int sort = below(depth > 9 ? 9 : 13);
    switch (sort) {
      case 0: case 1: case 2: case 3:
        return one("left", "today", "hurt", "number") + one("<", "=", ">", " < ", " > ") + below(chance(50) ? 5 : 250);
      case 4: return "with " + (chance(90) ? oneOf(graters, "x") : anyName());
      case 5: return "gone";
      case 6: return "whole";
      case 7: return "armed";
      case 8: return "robbed";
      case 9: case 10: return "not " + oneText(depth + 1);
      default: return "(" + cond(depth + 1) + ")";
    }
  }

  private void sentence(boolean good) {
    String text = cond(chance(10) ? -5 : 3);
    if (chance(5)) text = "not ".repeat(6 + below(4)) + text;
    if (!good) text = spoil(text);
    if (chance(5)) text = stretch(text, 200);
    if (text.length() > 900) text = text.substring(0, 900);
    feed(text);
    same("sentence", x.sentence(), m.sentence());
    for (int k = -1; k < 3; k++) same("said " + k, x.said(k), m.said(k));
  }

  /** A text of about so many bytes, its blanks made more. */
  private String stretch(String text, int most) {
    int size = most - 4 + below(9);
    if (text.length() >= size) return text;
    int at = below(text.length() + 1);
    if (chance(50)) at = Math.max(0, Math.min(text.length(), at));
    else at = text.length();
    while (at > 0 && at < text.length() && text.charAt(at) != ' ') at--;
    return text.substring(0, at) + Check.blanks(size - text.length()) + text.substring(at);
  }

  private String spoil(String text) {
    int at = below(text.length() + 1);
    switch (below(6)) {
      case 0: return text.substring(0, at);
      case 1: return at < text.length() ? text.substring(0, at) + text.substring(at + 1) : text;
      case 2: return text.substring(0, at) + (char) below(256) + text.substring(at);
      case 3: return text.substring(0, at) + one(";", "(", ")", "<", "=", ">", ".", "0", "9", "a", "A") + text.substring(at);
      case 4: return text.substring(0, at) + " " + Model.WORDS.stream().sorted().skip(below(27)).findFirst().get() + " " + text.substring(at);
      default:
        int to = Math.min(text.length(), at + 1 + below(6));
        return text.substring(0, at) + text.substring(to);
    }
  }

  private void heaps() {
    if (chance(10)) {
      feed("abc".substring(0, below(4)));
    } else {
      int n = chance(5) ? below(65536) : below(chance(50) ? 20 : 80);
      feed("" + (char) (n >> 8) + (char) (n & 255));
    }
    same("heaps", x.heaps(), m.heaps());
  }
}
