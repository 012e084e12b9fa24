import java.io.IOException;
import java.nio.charset.StandardCharsets;
import java.nio.file.Files;
import java.nio.file.Path;
import java.util.ArrayList;
import java.util.Arrays;
import java.util.List;
import java.util.regex.Matcher;
import java.util.regex.Pattern;
import java.util.stream.Stream;

/**
 * Every word of the document's terms and promises is within words that a test quotes by
 * Check.says(): a sentence that comes anew, or that no test goes by, is told here.
 */
public final class DocumentTest {
  private static final Pattern QUOTE = Pattern.compile("Check\\.says\\(((?:\\s*\\+?\\s*\"(?:[^\"\\\\]|\\\\.)*\")+)\\)");
  private static final Pattern LITERAL = Pattern.compile("\"((?:[^\"\\\\]|\\\\.)*)\"");
  private static final Pattern HEADING = Pattern.compile("## Promise \\d+: [\\w ]+ :|## Terms|## The public face|==== \\d\\.");

  public static void main(String[] args) throws IOException {
    String document = Files.readString(Path.of("../shared/DOC.md"), StandardCharsets.ISO_8859_1);
    String text = document.substring(document.indexOf("An object is used"), document.indexOf("## Not promised"))
        .replaceAll("(?s)```java.*?```", "").replaceAll("```(text)?", "").replaceAll("`[^`\n]*`", "").replaceAll("\\s+", " ");
    boolean[] covered = new boolean[text.length()];
    int quotes = 0;
    for (String quote : quotes()) {
      int at = text.indexOf(quote);
      Check.due("'" + quote + "' is in the document, once", at >= 0 && at == text.lastIndexOf(quote), true);
      if (at >= 0) {
        Arrays.fill(covered, at, at + quote.length(), true);
      }
      quotes++;
    }
    Check.due("there are quotes", quotes >= 100, true);
    promises(text, covered);
    words(text, covered);
    Check.finish();
  }

  private static List<String> quotes() throws IOException {
    List<String> all = new ArrayList<>();
    try (Stream<Path> files = Files.list(Path.of("src/test/java"))) {
      for (Path file : files.sorted().toList()) {
        if (!file.endsWith("DocumentTest.java")) {
          Matcher quote = QUOTE.matcher(Files.readString(file, StandardCharsets.ISO_8859_1));
          while (quote.find()) {
            StringBuilder words = new StringBuilder();
            Matcher part = LITERAL.matcher(quote.group(1));
            while (part.find()) {
              words.append(part.group(1).replace("\\\"", "\""));
            }
            all.add(words.toString());
          }
        }
      }
    }
    return all;
  }

  private static void words(String text, boolean[] covered) {
    Matcher heading = HEADING.matcher(text);
    while (heading.find()) {
      Arrays.fill(covered, heading.start(), heading.end(), true);
    }
    int from = 0;
    for (int i = 0; i < text.length(); i = Math.max(i + 1, from)) {
      if (!covered[i] && Character.isLetterOrDigit(text.charAt(i))) {
        from = i;
        while (from < text.length() && !covered[from]) {
          from++;
        }
        Check.text("what no test quotes", text.substring(i, from), "");
      }
    }
  }

  private static void promises(String text, boolean[] covered) {
    for (int promise = 1; promise <= 38; promise++) {
      int from = text.indexOf("## Promise " + promise + ":");
      int to = promise < 38 ? text.indexOf("## Promise " + (promise + 1) + ":") : text.length();
      boolean some = false;
      for (int i = Math.max(0, from); i < to; i++) {
        some |= covered[i];
      }
      Check.due("a test quotes promise " + promise, some, true);
    }
  }
}
