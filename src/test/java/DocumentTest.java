import java.io.IOException;
import java.nio.charset.StandardCharsets;
import java.nio.file.Files;
import java.nio.file.Path;
import java.util.ArrayList;
import java.util.Arrays;
import java.util.List;
import java.util.regex.Matcher;
import java.util.regex.Pattern;
import java.util.stream.Stream;

/**
 * Every bound that the document tells is within words that a test quotes by Check.says(): a bound
 * that comes anew, or that no test goes by, is told here.
 */
public final class DocumentTest {
  private static final Pattern QUOTE = Pattern.compile("Check\\.says\\(((?:\\s*\\+?\\s*\"(?:[^\"\\\\]|\\\\.)*\")+)\\)");
  private static final Pattern LITERAL = Pattern.compile("\"((?:[^\"\\\\]|\\\\.)*)\"");
  private static final Pattern BOUND = Pattern.compile(
      "NONE|false|NoSuchElementException|at most|at least|\\d+ to \\d+|less the place|-1000|\\bonce\\b|\\d without|"
      + "the least|the first|of like ones|less than|or less|more than|\\bat it\\b|it stays|the tape stays|changes nothing|"
      + "wrapping|ahead of any|nothing is kept|a 41st|a 21st|a ninth|the end:|the most bytes|\\d+ within|\\d+ ONES");

  public static void main(String[] args) throws IOException {
    String document = Files.readString(Path.of("../shared/DOC.md"), StandardCharsets.ISO_8859_1);
    String text = document.substring(document.indexOf("## Terms"), document.indexOf("## Not promised"))
        .replaceAll("`[^`\n]*`", "").replaceAll("\\s+", " ");
    boolean[] covered = new boolean[text.length()];
    int quotes = 0;
    for (String quote : quotes()) {
      int at = text.indexOf(quote);
      Check.due("'" + quote + "' is in the document", at >= 0, true);
      for (; at >= 0; at = text.indexOf(quote, at + 1)) {
        Arrays.fill(covered, at, at + quote.length(), true);
      }
      quotes++;
    }
    Check.due("there are quotes", quotes >= 100, true);
    bounds(text, covered);
    promises(text, covered);
    Check.finish();
  }

  private static List<String> quotes() throws IOException {
    List<String> all = new ArrayList<>();
    try (Stream<Path> files = Files.list(Path.of("src/test/java"))) {
      for (Path file : files.sorted().toList()) {
        if (!file.endsWith("DocumentTest.java")) {
          Matcher quote = QUOTE.matcher(Files.readString(file, StandardCharsets.ISO_8859_1));
          while (quote.find()) {
            StringBuilder words = new StringBuilder();
            Matcher part = LITERAL.matcher(quote.group(1));
            while (part.find()) {
              words.append(part.group(1).replace("\\\"", "\""));
            }
            all.add(words.toString());
          }
        }
      }
    }
    return all;
  }

  private static void bounds(String text, boolean[] covered) {
    Matcher bound = BOUND.matcher(text);
    while (bound.find()) {
      boolean whole = true;
      for (int i = bound.start(); i < bound.end(); i++) {
        whole &= covered[i];
      }
      String around = text.substring(Math.max(0, bound.start() - 60), Math.min(text.length(), bound.end() + 30));
      Check.due("a test quotes '" + bound.group() + "' in '" + around + "'", whole, true);
    }
  }

  private static void promises(String text, boolean[] covered) {
    for (int promise = 1; promise <= 38; promise++) {
      int from = text.indexOf("## Promise " + promise + ":");
      int to = promise < 38 ? text.indexOf("## Promise " + (promise + 1) + ":") : text.length();
      boolean some = false;
      for (int i = Math.max(0, from); i < to; i++) {
        some |= covered[i];
      }
      Check.due("a test quotes promise " + promise, some, true);
    }
  }
}
