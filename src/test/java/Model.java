import java.util.ArrayDeque;
import java.util.ArrayList;
import java.util.Arrays;
import java.util.Deque;
import java.util.HashMap;
import java.util.LinkedHashMap;
import java.util.List;
import java.util.Map;
import java.util.NoSuchElementException;
import java.util.Set;
import java.util.function.IntPredicate;

/** The document once more, written plainly and wastefully, to hold the class against. */
final class Model {
  static final Set<String> WORDS = Set.of("brother", "grater", "holds", "even", "files", "draught",
      "grates", "takes", "puts", "swaps", "file", "day", "fine", "coarse", "slice",
      "or", "and", "not", "gone", "whole", "armed", "robbed", "with",
      "left", "today", "hurt", "number");
  static final List<String> SIDES = List.of("fine", "coarse", "slice");

  private static final class Fault extends Exception {
    private static final long serialVersionUID = 1L;
    final int kind;
    final int place;
    Fault(int kind, int place) { this.kind = kind; this.place = place; }
  }

  private record Token(char sort, String text, int place) { }

  /** The tokens of a text; sorts: w word, n number, m mark, x none, e end, o over the most bytes. */
  private static List<Token> tokens(String text, int most) {
    List<Token> all = new ArrayList<>();
    int i = 0;
    while (i < text.length() && i < most) {
      char c = text.charAt(i);
      if (c == 32 || c == 10) { i++; continue; }
      int j = i + 1;
      String alnum = "abcdefghijklmnopqrstuvwxyz0123456789";
      if (alnum.indexOf(c) >= 0) while (j < text.length() && alnum.indexOf(text.charAt(j)) >= 0) j++;
      String t = text.substring(i, j);
      char sort = t.matches("[a-z]{1,7}") ? 'w' : t.matches("[0-9]{1,3}") ? 'n' : t.matches("[;<=>()]") ? 'm' : 'x';
      all.add(new Token(sort, t, i));
      i = j;
    }
    all.add(text.length() > most ? new Token('o', "", most) : new Token('e', "", text.length()));
    return all;
  }

  private static final class Cursor {
    final List<Token> all;
    int at = 0;
    Cursor(String text, int most) { all = tokens(text, most); }
    Token look() { return all.get(at); }
    Token next() { return all.get(at++); }
    boolean ended() { return look().sort == 'e'; }
    boolean is(String t) { return (look().sort == 'w' || look().sort == 'm') && look().text.equals(t); }
    Fault fault(int kind) { return new Fault(kind, look().place); }
    void mark(String t) throws Fault { if (!is(t)) throw fault(1); next(); }
    String name() throws Fault {
      if (look().sort != 'w' || WORDS.contains(look().text)) throw fault(1);
      return look().text;
    }
    int number(int least, int most) throws Fault {
      if (look().sort != 'n') throw fault(1);
      int n = Integer.parseInt(look().text);
      if (n < least || n > most) throw fault(2);
      next();
      return n;
    }
  }

  private static final class Brother implements Cloneable {
    String name; int block, hard, left, today, hurt, odd; String grater;
    Map<String, Integer> by = new HashMap<>();
    Brother copy() {
      Brother n = new Brother();
      n.name = name; n.block = block; n.hard = hard; n.left = left; n.today = today; n.hurt = hurt;
      n.odd = odd; n.grater = grater; n.by = new HashMap<>(by);
      return n;
    }
    int robbed() { return by.entrySet().stream().filter(e -> !e.getKey().equals(name)).mapToInt(Map.Entry::getValue).sum(); }
  }

  private static final class Grater {
    String name; int teeth, edge, strokes;
    Grater copy() { Grater n = new Grater(); n.name = name; n.teeth = teeth; n.edge = edge; n.strokes = strokes; return n; }
    int bites() { return Math.max(0, teeth - strokes / edge); }
  }

  /** An order and all that is so in it. */
  private static final class World {
    List<Brother> brothers = new ArrayList<>();
    List<Grater> graters = new ArrayList<>();
    int even = 3, files = 1, draught = 0, day = 0, heap = 0, last = 0, lines = 0;
    World copy() {
      World w = new World();
      for (Brother b : brothers) w.brothers.add(b.copy());
      for (Grater g : graters) w.graters.add(g.copy());
      w.even = even; w.files = files; w.draught = draught; w.day = day; w.heap = heap; w.last = last; w.lines = lines;
      return w;
    }
    int b(String name) { for (int i = 0; i < brothers.size(); i++) if (brothers.get(i).name.equals(name)) return i; return -1; }
    int g(String name) { for (int i = 0; i < graters.size(); i++) if (graters.get(i).name.equals(name)) return i; return -1; }
    Grater of(int b) { String n = brothers.get(b).grater; return n == null ? null : graters.get(g(n)); }
    int large(Grater g, Brother b, int side) {
      if (g == null) return 0;
      int coarse = Math.max(0, g.bites() - b.hard);
      return side == 0 ? Integer.signum(g.bites()) : side == 1 ? coarse : coarse * 3;
    }
    int curl(Grater g, Brother b, int side) { return Math.min(b.left, large(g, b, side)); }

    int grate(int who, int whose, int side) {
      Brother b = brothers.get(who), c = brothers.get(whose);
      Grater g = of(who);
      if (g == null) return 1;
      if (c.left == 0) return 2;
      if (c.left <= 3 && c.block > 3 && side > 0) return 3;
      int curl = curl(g, c, side);
      if (curl == 0) return 4;
      if (side == 2 && c.left < 10 && b.hurt < 99) b.hurt++;
      c.left -= curl; heap += curl; b.today += curl; c.by.merge(b.name, curl, Integer::sum);
      g.strokes += side == 2 ? 2 : 1;
      return 0;
    }
    int take(int b, int g) {
      if (brothers.get(b).grater != null) return 1;
      for (Brother o : brothers) if (graters.get(g).name.equals(o.grater)) return 2;
      brothers.get(b).grater = graters.get(g).name;
      return 0;
    }
    int put(int b) {
      if (brothers.get(b).grater == null) return 1;
      brothers.get(b).grater = null;
      return 0;
    }
    int swap(int b, int c) {
      if (b == c) return 1;
      String x = brothers.get(b).grater, y = brothers.get(c).grater;
      if (x == null && y == null) return 2;
      brothers.get(b).grater = y; brothers.get(c).grater = x;
      return 0;
    }
    int file(int g) {
      if (graters.get(g).strokes == 0) return 1;
      if (files == 0) return 2;
      files--; graters.get(g).strokes = 0;
      return 0;
    }
    boolean oneDay() {
      if (day == 400) return false;
      for (Brother b : brothers) { b.odd = Math.min(9999, b.odd + Math.abs(b.today - even)); b.today = 0; }
      last = heap; heap = 0; day++;
      return true;
    }
    int drawn(int n, int seed) {
      int[] x = {seed};
      int went = 0;
      for (int i = 0; i < n && day < 400; i++) {
        for (int b = 0; b < brothers.size(); b++) {
          int d = draw(x, 4);
          if (d < 3) grate(b, b, d); else grate(b, draw(x, brothers.size()), 0);
        }
        if (draw(x, 12) < draught) heap = heap / 2;
        oneDay();
        went++;
      }
      return went;
    }
    static int draw(int[] x, int n) { x[0] = x[0] * 1103515245 + 12345; return (x[0] >>> 8) % n; }
  }

  private static World readOrder(String text) throws Fault {
    World w = new World();
    Cursor c = new Cursor(text, 900);
    Map<String, Boolean> once = new HashMap<>();
    while (!c.ended()) {
      if (c.is("brother") || c.is("grater")) {
        boolean isBrother = c.is("brother");
        if (isBrother ? w.brothers.size() == 7 : w.graters.size() == 6) throw c.fault(4);
        c.next();
        String name = c.name();
        if (w.b(name) >= 0 || w.g(name) >= 0) throw c.fault(3);
        c.next();
        if (isBrother) {
          Brother b = new Brother();
          b.name = name; b.block = c.number(1, 240); b.left = b.block; b.hard = c.number(0, 5);
          w.brothers.add(b);
        } else {
          Grater g = new Grater();
          g.name = name; g.teeth = c.number(1, 9); g.edge = c.number(1, 60);
          w.graters.add(g);
        }
      } else if (c.is("holds")) {
        c.next();
        int b = w.b(c.name());
        if (b < 0 || w.brothers.get(b).grater != null) throw c.fault(3);
        c.next();
        String g = c.name();
        if (w.g(g) < 0) throw c.fault(3);
        for (Brother o : w.brothers) if (g.equals(o.grater)) throw c.fault(3);
        c.next();
        w.brothers.get(b).grater = g;
      } else if (c.is("even") || c.is("files") || c.is("draught")) {
        String word = c.look().text;
        if (once.put(word, true) != null) throw c.fault(3);
        c.next();
        int n = c.number(0, word.equals("draught") ? 12 : 20);
        if (word.equals("even")) w.even = n; else if (word.equals("files")) w.files = n; else w.draught = n;
      } else {
        throw c.fault(1);
      }
      c.mark(";");
      w.lines++;
    }
    return w;
  }

  private interface Act { int on(World w); }

  /** The lines of a book; each answers why it is wrong, as told(0) tells it. */
  private static List<Act> readBook(String text, World w) throws Fault {
    List<Act> acts = new ArrayList<>();
    Cursor c = new Cursor(text, 400);
    while (!c.ended()) {
      boolean full = acts.size() == 40;
      if (c.is("file")) {
        if (full) throw c.fault(4);
        c.next();
        int g = grater(c, w);
        acts.add(v -> tens(4, v.file(g)));
      } else if (c.is("day")) {
        if (full) throw c.fault(4);
        c.next();
        int n = c.number(1, 60);
        acts.add(v -> {
          if (v.day + n > 400) return 51;
          for (int i = 0; i < n; i++) v.oneDay();
          return 0;
        });
      } else {
        int b = w.b(c.name());
        if (b < 0) throw c.fault(3);
        if (full) throw c.fault(4);
        c.next();
        if (c.is("grates")) {
          c.next();
          int of = brother(c, w);
          if (c.look().sort != 'w' || !SIDES.contains(c.look().text)) throw c.fault(1);
          int side = SIDES.indexOf(c.next().text);
          acts.add(v -> v.grate(b, of, side));
        } else if (c.is("takes")) {
          c.next();
          int g = grater(c, w);
          acts.add(v -> tens(1, v.take(b, g)));
        } else if (c.is("puts")) {
          c.next();
          acts.add(v -> tens(2, v.put(b)));
        } else if (c.is("swaps")) {
          c.next();
          int other = brother(c, w);
          acts.add(v -> tens(3, v.swap(b, other)));
        } else {
          throw c.fault(1);
        }
      }
      c.mark(";");
    }
    return acts;
  }

  private static int tens(int tens, int why) { return why == 0 ? 0 : 10 * tens + why; }

  private static int brother(Cursor c, World w) throws Fault {
    int b = w.b(c.name());
    if (b < 0) throw c.fault(3);
    c.next();
    return b;
  }

  private static int grater(Cursor c, World w) throws Fault {
    int g = w.g(c.name());
    if (g < 0) throw c.fault(3);
    c.next();
    return g;
  }

  private interface Cond { boolean of(World w, int b); }

  private record Said(Cond cond, int ones) { }

  private static Said readSentence(String text, World w) throws Fault {
    Cursor c = new Cursor(text, 200);
    int[] ones = {0};
    Cond cond = cond(c, w, ones, 0);
    if (!c.ended()) throw c.fault(1);
    return new Said(cond, ones[0]);
  }

  private static Cond cond(Cursor c, World w, int[] ones, int around) throws Fault {
    Cond left = all(c, w, ones, around);
    while (c.is("or")) {
      c.next();
      Cond one = left, other = all(c, w, ones, around);
      left = (v, b) -> one.of(v, b) || other.of(v, b);
    }
    return left;
  }

  private static Cond all(Cursor c, World w, int[] ones, int around) throws Fault {
    Cond left = one(c, w, ones, around);
    while (c.is("and")) {
      c.next();
      Cond one = left, other = one(c, w, ones, around);
      left = (v, b) -> one.of(v, b) && other.of(v, b);
    }
    return left;
  }

  private static final Set<String> STARTS =
      Set.of("not", "(", "gone", "whole", "armed", "robbed", "with", "left", "today", "hurt", "number");

  private static Cond one(Cursor c, World w, int[] ones, int around) throws Fault {
    if (!STARTS.contains(c.look().text)) throw c.fault(1);
    if (ones[0] == 20 || around == 8) throw c.fault(4);
    ones[0]++;
    String start = c.next().text;
    switch (start) {
      case "not": { Cond in = one(c, w, ones, around + 1); return (v, b) -> !in.of(v, b); }
      case "(": { Cond in = cond(c, w, ones, around + 1); c.mark(")"); return in; }
      case "gone": return (v, b) -> v.brothers.get(b).left == 0;
      case "whole": return (v, b) -> v.brothers.get(b).left == v.brothers.get(b).block;
      case "armed": return (v, b) -> v.brothers.get(b).grater != null;
      case "robbed": return (v, b) -> v.brothers.get(b).robbed() > 0;
      case "with": { int g = grater(c, w); return (v, b) -> v.graters.get(g).name.equals(v.brothers.get(b).grater); }
      default: break;
    }
    if (!c.is("<") && !c.is("=") && !c.is(">")) throw c.fault(1);
    String sign = c.next().text;
    int n = c.number(0, 999);
    IntPredicate holds = sign.equals("<") ? i -> i < n : sign.equals("=") ? i -> i == n : i -> i > n;
    return (v, b) -> {
      Brother o = v.brothers.get(b);
      return holds.test(start.equals("left") ? o.left : start.equals("today") ? o.today : start.equals("hurt") ? o.hurt : b);
    };
  }

  // ---- the face

  private StringBuilder tape = new StringBuilder();
  private World w = new World();
  private Said sentence = null;
  private int fault = 0;
  private final Deque<World> past = new ArrayDeque<>();
  private int[] strokes = null;
  private int[] heapRow = null;
  private int look = -1;
  private int[] dealt = null;
  private String tag = "";
  private int[] told = null;
  private final World[] imageWorld = new World[2];
  private final Said[] imageSaid = new Said[2];

  private boolean isB(int b) { return b >= 0 && b < w.brothers.size(); }
  private boolean isG(int g) { return g >= 0 && g < w.graters.size(); }
  private static boolean isSide(int s) { return s >= 0 && s < 3; }

  private String takeTape() { String t = tape.toString(); tape = new StringBuilder(); return t; }

  private void push(World before) {
    past.addLast(before);
    if (past.size() > 8) past.removeFirst();
  }

  int feed(int... five) {
    if (tape.length() > 920) return -1;
    for (int n : five) for (int s = 24; s >= 0; s -= 8) tape.append((char) (n >>> s & 255));
    return tape.length();
  }
  boolean end(int n) {
    if (n < 0 || n > tape.length()) return false;
    tape.setLength(n);
    return true;
  }
  int order() {
    try {
      w = readOrder(takeTape());
      sentence = null; fault = 0; past.clear();
      return w.lines;
    } catch (Fault f) { fault = f.kind; return -1 - f.place; }
  }
  int fault() { return fault; }
  int brother(int b, int what) {
    if (!isB(b) || what < 0 || what > 7) throw new NoSuchElementException();
    Brother o = w.brothers.get(b);
    return new int[] {o.left, o.block, o.hard, o.grater == null ? -1 : w.g(o.grater), o.today, o.hurt, o.odd, o.robbed()}[what];
  }
  int grater(int g, int what) {
    if (!isG(g) || what < 0 || what > 4) return -1;
    Grater o = w.graters.get(g);
    int who = -1;
    for (Brother b : w.brothers) if (o.name.equals(b.grater)) who = w.b(b.name);
    return new int[] {o.teeth, o.edge, o.strokes, o.bites(), who}[what];
  }
  int now(int what) {
    if (what < 0 || what > 7) return -1;
    int gone = 0, armed = 0, left = 0, odd = 0, bit = 1;
    for (Brother b : w.brothers) {
      if (b.left == 0) gone += bit;
      if (b.grater != null) armed += bit;
      left += b.left; odd += b.odd; bit *= 2;
    }
    return new int[] {w.day, w.heap, w.last, w.files, gone, armed, left, odd}[what];
  }
  private int done(World before, int why) { if (why == 0) push(before); return why; }
  int grate(int b, int c, int side) { return !isB(b) || !isB(c) || !isSide(side) ? -1 : done(w.copy(), w.grate(b, c, side)); }
  int take(int b, int g) { return !isB(b) || !isG(g) ? -1 : done(w.copy(), w.take(b, g)); }
  int put(int b) { return !isB(b) ? -1 : done(w.copy(), w.put(b)); }
  int swap(int b, int c) { return !isB(b) || !isB(c) ? -1 : done(w.copy(), w.swap(b, c)); }
  int file(int g) { return !isG(g) ? -1 : done(w.copy(), w.file(g)); }
  int days(int n) {
    if (n < 1 || n > 60) return -1;
    World before = w.copy();
    int went = 0;
    while (went < n && w.oneDay()) went++;
    if (went > 0) push(before);
    return went;
  }
  int undo() {
    if (past.isEmpty()) return -1;
    w = past.removeLast();
    return past.size();
  }
  int curl(int g, int b, int side) { return !isG(g) || !isB(b) || !isSide(side) ? -1 : w.curl(w.graters.get(g), w.brothers.get(b), side); }
  int strokes(int b, int n) {
    if (!isB(b) || n < 0 || n > 120) return -1;
    int[] each = new int[3];
    for (int s = 0; s < 3; s++) each[s] = w.large(w.of(b), w.brothers.get(b), s);
    int[] best = null;
    for (int total = 0; total <= n && best == null; total++) {
      for (int slices = 0; slices <= total && best == null; slices++) {
        for (int coarse = 0; slices + coarse <= total && best == null; coarse++) {
          int fine = total - slices - coarse;
          if (fine * each[0] + coarse * each[1] + slices * each[2] == n) best = new int[] {fine, coarse, slices};
        }
      }
    }
    if (best == null) return -1;
    strokes = best;
    return best[0] + best[1] + best[2];
  }
  int strokesOf(int side) { return strokes == null || !isSide(side) ? -1 : strokes[side]; }
  int heaps() {
    String t = takeTape();
    if (t.length() != 2) return -1;
    int n = t.charAt(0) * 256 + t.charAt(1);
    int size = w.brothers.size();
    List<int[]> rows = new ArrayList<>();
    int[] row = new int[size];
    for (int code = 0; code < 1 << 2 * size; code++) {
      int sum = 0;
      boolean good = true;
      for (int b = 0; b < size; b++) {
        row[b] = code >> 2 * (size - 1 - b) & 3;
        if (w.of(b) == null && row[b] > 0) { good = false; break; }
        sum += row[b] * w.large(w.of(b), w.brothers.get(b), 1);
      }
      if (good && sum == n) rows.add(row.clone());
    }
    if (!rows.isEmpty()) {
      heapRow = rows.get(0);
      look = -1;
      int least = Integer.MAX_VALUE;
      for (int b = 0; b < size; b++) {
        int[] by = new int[4];
        for (int[] r : rows) by[r[b]]++;
        int greatest = Arrays.stream(by).max().getAsInt();
        if (greatest < least) { least = greatest; look = b; }
      }
    }
    return rows.size();
  }
  int heapOf(int b) { return heapRow == null || b < 0 || b >= heapRow.length ? -1 : heapRow[b]; }
  int look() { return look; }
  private int bestSum;
  int dealt() {
    bestSum = Integer.MAX_VALUE;
    deal(0, new ArrayList<>(), 0);
    return bestSum;
  }
  private void deal(int b, List<Integer> row, int sum) {
    if (b == w.brothers.size()) {
      if (sum < bestSum) { bestSum = sum; dealt = row.stream().mapToInt(Integer::intValue).toArray(); }
      return;
    }
    for (int g = 0; g <= w.graters.size(); g++) {
      boolean none = g == w.graters.size();
      if (!none && row.contains(g)) continue;
      int falls = none ? 0 : w.curl(w.graters.get(g), w.brothers.get(b), 1);
      row.add(none ? -1 : g);
      deal(b + 1, row, sum + Math.abs(falls - w.even));
      row.remove(row.size() - 1);
    }
  }
  int dealtOf(int b) { return dealt == null || b < 0 || b >= dealt.length ? -1 : dealt[b]; }
  int gone(int b) {
    if (!isB(b)) return -1;
    int left = w.brothers.get(b).left, n = 0;
    if (left > 0 && w.even == 0) return -1;
    while (left > 0) { left -= w.even; n++; }
    return n;
  }
  int time(int b, int what) {
    if (!isB(b) || what < 0 || what > 1) throw new NoSuchElementException();
    int x = w.brothers.get(b).left, y = w.brothers.get(b).block;
    int d = java.math.BigInteger.valueOf(x).gcd(java.math.BigInteger.valueOf(y)).intValue();
    return what == 0 ? x / d : y / d;
  }
  int from(int b, int c) { return !isB(b) || !isB(c) ? -1 : w.brothers.get(c).by.getOrDefault(w.brothers.get(b).name, 0); }
  int thief(int b) {
    if (!isB(b)) return -1;
    int most = 0, who = -1;
    for (int c = 0; c < w.brothers.size(); c++) if (c != b && from(c, b) > most) { most = from(c, b); who = c; }
    return who;
  }
  int tag(int b) {
    if (!isB(b)) return -1;
    Brother o = w.brothers.get(b);
    tag = o.name + " has " + o.left + " of " + o.block + (o.grater == null ? "" : " by " + o.grater);
    return tag.length();
  }
  int byteAt(int i) { return i < 0 || i >= tag.length() ? -1 : tag.charAt(i); }
  int drawn(int n, int seed) {
    if (n < 1 || n > 60 || w.brothers.isEmpty()) return -1;
    World before = w.copy();
    int went = w.drawn(n, seed);
    if (went > 0) push(before);
    return went;
  }
  int odds(int b, int n, int seed) {
    if (!isB(b) || n < 1 || n > 30) return -1;
    int times = 0;
    for (int i = 0; i < n; i++) {
      World v = w.copy();
      v.drawn(20, seed + i);
      if (v.brothers.get(b).left == 0) times++;
    }
    return times;
  }
  int book(int lives) {
    if (lives < 0 || lives > 1) return -1000;
    List<Act> acts;
    try {
      acts = readBook(takeTape(), w);
    } catch (Fault f) { fault = f.kind; return -2 - f.place; }
    fault = 0;
    World v = w.copy();
    int why = 0, line = 0;
    for (Act act : acts) {
      why = act.on(v);
      if (why != 0) break;
      line++;
    }
    told = new int[] {why, line, v.day, v.heap};
    if (lives == 1) { push(w); w = v; }
    return why == 0 ? -1 : line;
  }
  int told(int what) { return told == null || what < 0 || what > 3 ? -1 : told[what]; }
  int sentence() {
    try {
      sentence = readSentence(takeTape(), w);
      fault = 0;
      return sentence.ones;
    } catch (Fault f) { fault = f.kind; return -1 - f.place; }
  }
  int said(int k) {
    if (sentence == null) return -1;
    List<Integer> of = new ArrayList<>();
    for (int b = 0; b < w.brothers.size(); b++) if (sentence.cond.of(w, b)) of.add(b);
    return k == -1 ? of.size() : k >= 0 && k < of.size() ? of.get(k) : -1;
  }
  boolean image(int k) {
    if (k < 0 || k > 1) return false;
    imageWorld[k] = w.copy(); imageSaid[k] = sentence;
    return true;
  }
  boolean restore(int k) {
    if (k < 0 || k > 1 || imageWorld[k] == null) return false;
    w = imageWorld[k].copy(); sentence = imageSaid[k]; past.clear();
    return true;
  }
  int count(int what) {
    Map<Integer, Integer> all = new LinkedHashMap<>();
    all.put(0, w.brothers.size()); all.put(1, w.graters.size()); all.put(2, w.even); all.put(3, w.draught); all.put(4, tape.length());
    return all.getOrDefault(what, -1);
  }
}
