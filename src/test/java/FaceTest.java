import java.io.IOException;
import java.lang.reflect.Constructor;
import java.lang.reflect.Field;
import java.lang.reflect.Method;
import java.lang.reflect.Modifier;
import java.nio.charset.StandardCharsets;
import java.nio.file.Files;
import java.nio.file.Path;
import java.util.List;
import java.util.Set;
import java.util.TreeSet;
import java.util.regex.Matcher;
import java.util.regex.Pattern;

/** The face of the class is the document's, and its source keeps to the rules that a look can tell. */
public final class FaceTest {
  private static final Pattern METHOD = Pattern.compile("    public (int|boolean) (\\w+)\\(([^)]*)\\)( throws NoSuchElementException)?;");

  private static final Set<String> signs = new TreeSet<>();
  private static final Set<String> names = new TreeSet<>();
  private static final Set<String> throwing = new TreeSet<>();

  public static void main(String[] args) throws IOException {
    readFace(Files.readString(Path.of("../shared/DOC.md"), StandardCharsets.ISO_8859_1));
    face();
    inside();
    source(Files.readString(Path.of("src/main/java/GraterOrder.java"), StandardCharsets.ISO_8859_1));
    Check.finish();
  }

  /** The face as the document's code block tells it. */
  private static void readFace(String document) {
    int from = document.indexOf("```java");
    String block = document.substring(from, document.indexOf("```", from + 3));
    Matcher method = METHOD.matcher(block);
    while (method.find()) {
      String types = method.group(3).replaceAll("(\\w+) \\w+", "$1").replace(" ", "");
      names.add(method.group(2));
      signs.add(method.group(2) + "(" + types + ")" + method.group(1));
      if (method.group(4) != null) {
        throwing.add(method.group(2));
      }
    }
    Check.due("a method for each promise but the first", names.size(), 37);
    Check.due("two of them throw", throwing.size(), 2);
    Check.due("the constant", block.contains("public static final int NONE = " + GraterOrder.NONE + ";"), true);
    Check.due("lines of the block", block.split("\n").length, 1 + 5 + names.size() + 1);
  }

  private static String sign(Method m) {
    StringBuilder sign = new StringBuilder(m.getName()).append('(');
    for (Class<?> p : m.getParameterTypes()) {
      sign.append(sign.charAt(sign.length() - 1) == '(' ? "" : ",").append(p.getName());
    }
    return sign.append(')').append(m.getReturnType().getName()).toString();
  }

  private static void face() {
    Class<?> face = GraterOrder.class;
    Check.due("public and final", face.getModifiers(), Modifier.PUBLIC | Modifier.FINAL);
    Set<String> got = new TreeSet<>();
    for (Method m : face.getDeclaredMethods()) {
      if (!Modifier.isPrivate(m.getModifiers())) {
        got.add(sign(m));
        Check.due("public " + m, Modifier.isPublic(m.getModifiers()), true);
        Check.due("throws of " + m, m.getExceptionTypes().length, throwing.contains(m.getName()) ? 1 : 0);
      }
    }
    Check.text("methods", got.toString(), signs.toString());
    for (Field f : face.getDeclaredFields()) {
      Check.due("hidden " + f, Modifier.isPrivate(f.getModifiers()), !f.getName().equals("NONE"));
    }
    Check.due("constructors", face.getDeclaredConstructors().length, 1);
    for (Constructor<?> c : face.getDeclaredConstructors()) {
      Check.due("public " + c, Modifier.isPublic(c.getModifiers()) && c.getParameterCount() == 0, true);
    }
    Check.due("NONE", GraterOrder.NONE, -1);
  }

  private static void inside() {
    Class<?>[] classes = GraterOrder.class.getDeclaredClasses();
    Check.due("at most twelve classes", classes.length <= 11, true);
    for (Method m : GraterOrder.class.getDeclaredMethods()) {
      Check.due("no private namesake " + m, Modifier.isPrivate(m.getModifiers()) && names.contains(m.getName()), false);
    }
    for (Class<?> c : classes) {
      Check.due("static " + c, Modifier.isStatic(c.getModifiers()), true);
      Check.due("private " + c, Modifier.isPrivate(c.getModifiers()), true);
      for (Method m : c.getDeclaredMethods()) {
        Check.due("no namesake " + m, names.contains(m.getName()), false);
        Check.due("few parameters " + m, m.getParameterCount() <= 7, true);
      }
      for (Field f : c.getDeclaredFields()) {
        Check.due("final if static " + f, !Modifier.isStatic(f.getModifiers()) || Modifier.isFinal(f.getModifiers()), true);
      }
    }
  }

  private static void source(String text) {
    for (int i = 0; i < text.length(); i++) {
      if (text.charAt(i) > 126) {
        Check.due("sign at " + i, text.charAt(i), 0);
      }
    }
    Set<String> imports = new TreeSet<>();
    Matcher m = Pattern.compile("import ([^;]+);").matcher(text);
    while (m.find()) {
      imports.add(m.group(1));
    }
    Check.text("imports", imports.toString(), "[java.util.Arrays, java.util.NoSuchElementException]");
    String code = text.replaceAll("(?s)/\\*.*?\\*/", "").replaceAll("//[^\n]*", "").replaceAll("\"[^\"\n]*\"", "\"\"");
    for (String banned : List.of("->", "::", "\\bcatch\\b", "\\bfinally\\b", "\\bsynchronized\\b", "\\bassert\\b",
        "\\bdouble\\b", "\\bfloat\\b", "\\bthis::", "\\bordinal\\b", "\\bSystem\\.(?!arraycopy)", "\\bObject\\b", "\\bpackage\\b",
        "\\bstatic \\{", "Exact\\(", "\\bMath\\.(?!min|max|abs)")) {
      Check.due("no " + banned, Pattern.compile(banned).matcher(code).find(), false);
    }
  }
}
