import java.io.IOException;
import java.lang.reflect.Method;
import java.nio.charset.StandardCharsets;
import java.nio.file.Files;
import java.nio.file.Path;
import java.util.Set;
import java.util.TreeSet;
import java.util.regex.Matcher;
import java.util.regex.Pattern;

/** README.md says how to use the class: its run answers what is written there, and names every call. */
public final class ReadmeTest {
  private static final Pattern STEP = Pattern.compile(
      "(?m)^(?:tell\\(x, \"([^\"]*)\"\\);|x\\.(\\w+)\\(([^)]*)\\); +// (-?\\d+|true|false)\\b.*|x\\..*)$");
  private static final Pattern TEST = Pattern.compile("(?m)^\\| (\\w+Test(?:, \\w+Test)*) \\|");

  public static void main(String[] args) throws IOException, ReflectiveOperationException {
    String readme = Files.readString(Path.of("README.md"), StandardCharsets.UTF_8);
    run(readme);
    tests(readme);
    Check.finish();
  }

  private static void run(String readme) throws ReflectiveOperationException {
    GraterOrder x = new GraterOrder();
    Set<String> called = new TreeSet<>();
    Matcher step = STEP.matcher(readme);
    while (step.find()) {
      if (step.group(1) != null) {
        Check.feed(x, step.group(1).replace("\\u0000", "\0").replace("\\u0008", "\b"));
      } else if (step.group(2) != null) {
        called.add(step.group(2));
        Check.text(step.group(), String.valueOf(answer(x, step.group(2), step.group(3))), step.group(4));
      } else {
        Check.text("a call without its answer", step.group(), "");
      }
    }
    called.add("feed");
    called.add("end");
    for (Method m : GraterOrder.class.getMethods()) {
      if (m.getDeclaringClass() == GraterOrder.class) {
        Check.due("README.md shows " + m.getName(), called.contains(m.getName()), true);
      }
    }
    Check.due("the tape at last", x.count(4), 0);
  }

  private static Object answer(GraterOrder x, String name, String numbers) throws ReflectiveOperationException {
    String[] words = numbers.isEmpty() ? new String[0] : numbers.split(", ");
    Class<?>[] types = new Class<?>[words.length];
    Object[] values = new Object[words.length];
    for (int i = 0; i < words.length; i++) {
      types[i] = int.class;
      values[i] = Integer.valueOf(words[i]);
    }
    return GraterOrder.class.getMethod(name, types).invoke(x, values);
  }

  /** Its table tells each test that there is, and no other one. */
  private static void tests(String readme) throws IOException {
    Set<String> told = new TreeSet<>();
    Matcher row = TEST.matcher(readme);
    while (row.find()) {
      told.addAll(Set.of(row.group(1).split(", ")));
    }
    Set<String> there = new TreeSet<>();
    try (var files = Files.list(Path.of("src/test/java"))) {
      files.map(file -> file.getFileName().toString()).filter(name -> name.endsWith("Test.java"))
          .forEach(name -> there.add(name.substring(0, name.length() - ".java".length())));
    }
    Check.text("tests in README.md", told.toString(), there.toString());
  }
}
