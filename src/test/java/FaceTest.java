import java.io.IOException;
import java.lang.reflect.Constructor;
import java.lang.reflect.Field;
import java.lang.reflect.Method;
import java.lang.reflect.Modifier;
import java.nio.charset.StandardCharsets;
import java.nio.file.Files;
import java.nio.file.Path;
import java.util.List;
import java.util.Set;
import java.util.TreeSet;
import java.util.regex.Matcher;
import java.util.regex.Pattern;

/** The face of the class is the document's, and its source keeps to the rules that a look can tell. */
public final class FaceTest {
  private static final String FACE =
      "feed(int,int,int,int,int)int end(int)boolean order()int fault()int brother(int,int)int grater(int,int)int "
      + "now(int)int grate(int,int,int)int take(int,int)int put(int)int swap(int,int)int file(int)int days(int)int "
      + "undo()int curl(int,int,int)int strokes(int,int)int strokesOf(int)int heaps()int heapOf(int)int look()int "
      + "dealt()int dealtOf(int)int gone(int)int time(int,int)int from(int,int)int thief(int)int tag(int)int "
      + "byteAt(int)int drawn(int,int)int odds(int,int,int)int book(int)int told(int)int sentence()int said(int)int "
      + "image(int)boolean restore(int)boolean count(int)int";

  public static void main(String[] args) throws IOException {
    face();
    inside();
    source(Files.readString(Path.of("src/main/java/GraterOrder.java"), StandardCharsets.ISO_8859_1));
    Check.finish();
  }

  private static String sign(Method m) {
    StringBuilder sign = new StringBuilder(m.getName()).append('(');
    for (Class<?> p : m.getParameterTypes()) {
      sign.append(sign.charAt(sign.length() - 1) == '(' ? "" : ",").append(p.getName());
    }
    return sign.append(')').append(m.getReturnType().getName()).toString();
  }

  private static void face() {
    Class<?> face = GraterOrder.class;
    Check.due("public and final", face.getModifiers(), Modifier.PUBLIC | Modifier.FINAL);
    Set<String> want = new TreeSet<>(List.of(FACE.split(" ")));
    Set<String> got = new TreeSet<>();
    for (Method m : face.getDeclaredMethods()) {
      if (!Modifier.isPrivate(m.getModifiers())) {
        got.add(sign(m));
        Check.due("public " + m, Modifier.isPublic(m.getModifiers()), true);
        Check.due("throws of " + m, m.getExceptionTypes().length, Set.of("brother", "time").contains(m.getName()) ? 1 : 0);
      }
    }
    Check.text("methods", got.toString(), want.toString());
    for (Field f : face.getDeclaredFields()) {
      Check.due("hidden " + f, Modifier.isPrivate(f.getModifiers()), !f.getName().equals("NONE"));
    }
    Check.due("constructors", face.getDeclaredConstructors().length, 1);
    for (Constructor<?> c : face.getDeclaredConstructors()) {
      Check.due("public " + c, Modifier.isPublic(c.getModifiers()) && c.getParameterCount() == 0, true);
    }
    Check.due("NONE", GraterOrder.NONE, -1);
  }

  private static void inside() {
    Set<String> names = new TreeSet<>();
    for (String sign : FACE.split(" ")) {
      names.add(sign.substring(0, sign.indexOf('(')));
    }
    Class<?>[] classes = GraterOrder.class.getDeclaredClasses();
    Check.due("at most twelve classes", classes.length <= 11, true);
    for (Method m : GraterOrder.class.getDeclaredMethods()) {
      Check.due("no private namesake " + m, Modifier.isPrivate(m.getModifiers()) && names.contains(m.getName()), false);
    }
    for (Class<?> c : classes) {
      Check.due("static " + c, Modifier.isStatic(c.getModifiers()), true);
      Check.due("private " + c, Modifier.isPrivate(c.getModifiers()), true);
      for (Method m : c.getDeclaredMethods()) {
        Check.due("no namesake " + m, names.contains(m.getName()), false);
        Check.due("few parameters " + m, m.getParameterCount() <= 7, true);
      }
      for (Field f : c.getDeclaredFields()) {
        Check.due("final if static " + f, !Modifier.isStatic(f.getModifiers()) || Modifier.isFinal(f.getModifiers()), true);
      }
    }
  }

  private static void source(String text) {
    for (int i = 0; i < text.length(); i++) {
      if (text.charAt(i) > 126) {
        Check.due("sign at " + i, text.charAt(i), 0);
      }
    }
    Set<String> imports = new TreeSet<>();
    Matcher m = Pattern.compile("import ([^;]+);").matcher(text);
    while (m.find()) {
      imports.add(m.group(1));
    }
    Check.text("imports", imports.toString(), "[java.util.Arrays, java.util.NoSuchElementException]");
    String code = text.replaceAll("(?s)/\\*.*?\\*/", "").replaceAll("//[^\n]*", "").replaceAll("\"[^\"\n]*\"", "\"\"");
    for (String banned : List.of("->", "::", "\\bcatch\\b", "\\bfinally\\b", "\\bsynchronized\\b", "\\bassert\\b",
        "\\bdouble\\b", "\\bfloat\\b", "\\bthis::", "\\bordinal\\b", "\\bSystem\\.(?!arraycopy)", "\\bObject\\b", "\\bpackage\\b",
        "\\bstatic \\{", "Exact\\(", "\\bMath\\.(?!min|max|abs)")) {
      Check.due("no " + banned, Pattern.compile(banned).matcher(code).find(), false);
    }
    int open = 0;
    int since = 0;
    String[] lines = code.split("\n", -1);
    for (int i = 0; i < lines.length; i++) {
      if (lines[i].matches("    (    )?[^ /@*].*\\) (throws \\w+ )?\\{")) {
        since = i;
        open = lines[i].startsWith("        ") ? 8 : 4;
      }
      if (open > 0 && lines[i].equals(" ".repeat(open) + "}")) {
        Check.due("a short method at line " + (since + 1), i - since <= 60, true);
        open = 0;
      }
    }
  }
}
