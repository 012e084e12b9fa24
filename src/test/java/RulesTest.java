import com.sun.source.tree.AssertTree;
import com.sun.source.tree.ClassTree;
import com.sun.source.tree.CompilationUnitTree;
import com.sun.source.tree.ForLoopTree;
import com.sun.source.tree.LambdaExpressionTree;
import com.sun.source.tree.LiteralTree;
import com.sun.source.tree.MemberReferenceTree;
import com.sun.source.tree.MethodInvocationTree;
import com.sun.source.tree.MethodTree;
import com.sun.source.tree.NewArrayTree;
import com.sun.source.tree.NewClassTree;
import com.sun.source.tree.SynchronizedTree;
import com.sun.source.tree.ThrowTree;
import com.sun.source.tree.TryTree;
import com.sun.source.tree.VariableTree;
import com.sun.source.tree.WhileLoopTree;
import com.sun.source.util.JavacTask;
import com.sun.source.util.TreePathScanner;
import com.sun.source.util.Trees;
import java.io.IOException;
import java.nio.file.Path;
import java.util.ArrayDeque;
import java.util.Deque;
import java.util.List;
import java.util.Map;
import java.util.Set;
import java.util.TreeMap;
import java.util.TreeSet;
import javax.lang.model.element.Element;
import javax.lang.model.element.ElementKind;
import javax.lang.model.element.ExecutableElement;
import javax.lang.model.element.Modifier;
import javax.tools.JavaCompiler;
import javax.tools.StandardJavaFileManager;
import javax.tools.ToolProvider;

/** Rules of LANGUAGE.md that the compiler's own tree of the class can tell. */
public final class RulesTest {
  private static final int DEEPEST = 8;
  private static final int MOST_CLASSES = 12;
  private static final int MOST_FIELDS = 20;
  private static final int MOST_PARAMETERS = 7;
  private static final int LONGEST_METHOD = 60;
  /** What of the library (rule 4) the class uses; another call is looked up there, then added here. */
  private static final Set<String> LIBRARY = Set.of(
      "java.lang.String.length", "java.lang.String.charAt", "java.lang.String.indexOf",
      "java.lang.Math.min", "java.lang.Math.max", "java.lang.Math.abs", "java.lang.Integer.compare",
      "java.lang.System.arraycopy", "java.util.Arrays.fill");
  /** Methods that call themselves, or one another; each carries how deep it is. */
  private static final Set<String> RECURSIVE = Set.of(
      "Sentence.readCond", "Sentence.readAll", "Sentence.readOne", "Heaps.rowsFrom");

  private static final Map<String, Set<String>> calls = new TreeMap<>();
  private static final Set<String> faces = new TreeSet<>();

  public static void main(String[] args) throws IOException {
    JavaCompiler compiler = ToolProvider.getSystemJavaCompiler();
    try (StandardJavaFileManager files = compiler.getStandardFileManager(null, null, null)) {
      JavacTask task = (JavacTask) compiler.getTask(null, files, null, List.of("--release", "17", "-proc:none"), null,
          files.getJavaFileObjects(Path.of("src/main/java/GraterOrder.java")));
      Iterable<? extends CompilationUnitTree> units = task.parse();
      task.analyze();
      for (CompilationUnitTree unit : units) {
        Look look = new Look(Trees.instance(task), unit);
        look.scan(unit, null);
        Check.due("rule 11: classes", look.classes <= MOST_CLASSES && look.classes > 1, true);
      }
    }
    Check.due("methods of the face were found", faces.size(), 38);
    depth();
    Check.finish();
  }

  /** Each way from a method of the face down, no method twice on it. */
  private static void depth() {
    Set<String> recursive = new TreeSet<>();
    int deepest = 0;
    for (String face : faces) {
      Deque<String> way = new ArrayDeque<>();
      way.push(face);
      deepest = Math.max(deepest, goDown(way, recursive));
    }
    Check.due("the deepest way is " + DEEPEST, deepest, DEEPEST);
    Check.text("rule 8: methods that call themselves", recursive.toString(), new TreeSet<>(RECURSIVE).toString());
  }

  private static int goDown(Deque<String> way, Set<String> recursive) {
    if (way.size() > DEEPEST) {
      Check.text("rule 11: calls go at most eight deep", way.toString(), "");
      return way.size();
    }
    int deepest = way.size();
    for (String next : calls.getOrDefault(way.peek(), Set.of())) {
      if (way.contains(next)) {
        for (String open : way) {
          recursive.add(open);
          if (open.equals(next)) {
            break;
          }
        }
      } else {
        way.push(next);
        deepest = Math.max(deepest, goDown(way, recursive));
        way.pop();
      }
    }
    return deepest;
  }

  private static final class Look extends TreePathScanner<Void, Void> {
    private final Trees trees;
    private final CompilationUnitTree unit;
    private String method = "";
    private boolean inConstructor = false;
    int classes = 0;

    Look(Trees trees, CompilationUnitTree unit) {
      this.trees = trees;
      this.unit = unit;
    }

    private String here() {
      return method + " at line "
          + unit.getLineMap().getLineNumber(trees.getSourcePositions().getStartPosition(unit, getCurrentPath().getLeaf()));
    }

    private static String nameOf(Element method) {
      Element owner = method.getEnclosingElement();
      String of = owner.getSimpleName().toString();
      boolean own = owner.toString().startsWith("GraterOrder");
      return (own ? of : owner.toString()) + "." + method.getSimpleName();
    }

    @Override
    public Void visitClass(ClassTree tree, Void nothing) {
      classes++;
      int fields = 0;
      Element type = trees.getElement(getCurrentPath());
      for (Element member : type.getEnclosedElements()) {
        boolean constant = member.getModifiers().contains(Modifier.STATIC) && member.getModifiers().contains(Modifier.FINAL);
        boolean field = member.getKind() == ElementKind.FIELD;
        fields += field && !constant ? 1 : 0;
        Check.due("rule 5: " + type + "." + member + " is final if it is a static field",
            field && member.getModifiers().contains(Modifier.STATIC) && !constant, false);
        if (type.getKind() == ElementKind.ENUM && field && !constant) {
          String of = member.asType().toString();
          Check.due("rule 2: enum's field of " + of, Set.of("int", "long", "boolean", "java.lang.String").contains(of), true);
        }
      }
      Check.due("rule 11: fields of " + type, fields <= MOST_FIELDS, true);
      return super.visitClass(tree, nothing);
    }

    @Override
    public Void visitMethod(MethodTree tree, Void nothing) {
      ExecutableElement element = (ExecutableElement) trees.getElement(getCurrentPath());
      String before = method;
      method = nameOf(element);
      inConstructor = element.getKind() == ElementKind.CONSTRUCTOR;
      if (element.getEnclosingElement().toString().equals("GraterOrder") && element.getModifiers().contains(Modifier.PUBLIC)) {
        faces.add(method);
      }
      Check.due("rule 11: parameters of " + method, tree.getParameters().size() <= MOST_PARAMETERS, true);
      long from = unit.getLineMap().getLineNumber(Math.max(0, trees.getSourcePositions().getStartPosition(unit, tree)));
      long to = unit.getLineMap().getLineNumber(Math.max(0, trees.getSourcePositions().getEndPosition(unit, tree)));
      Check.due("rule 11: length of " + method, to - from <= LONGEST_METHOD, true);
      super.visitMethod(tree, nothing);
      method = before;
      inConstructor = false;
      return null;
    }

    @Override
    public Void visitMethodInvocation(MethodInvocationTree tree, Void nothing) {
      Element called = trees.getElement(getCurrentPath());
      String name = nameOf(called);
      boolean own = called.getEnclosingElement().toString().startsWith("GraterOrder");
      boolean superCall = called.getKind() == ElementKind.CONSTRUCTOR;
      Check.due("rule 4: " + name + ", called in " + here(), own || superCall || LIBRARY.contains(name), true);
      Check.due("rule 12: values() kept once, not called in " + here(), name.endsWith(".values") && !method.isEmpty(), false);
      if (!superCall) {
        calls.computeIfAbsent(method, m -> new TreeSet<>()).add(name);
      }
      return super.visitMethodInvocation(tree, nothing);
    }

    @Override
    public Void visitNewClass(NewClassTree tree, Void nothing) {
      String made = tree.getIdentifier().toString();
      boolean enumConstant = trees.getElement(getCurrentPath()).getEnclosingElement().getKind() == ElementKind.ENUM;
      boolean early = method.isEmpty() || inConstructor || enumConstant;
      Check.due("rows are made in constructors, not " + made + " in " + here(), early || made.equals("NoSuchElementException"), true);
      return super.visitNewClass(tree, nothing);
    }

    @Override
    public Void visitNewArray(NewArrayTree tree, Void nothing) {
      Check.due("rows are made in constructors, not in " + here(), method.isEmpty() || inConstructor, true);
      return super.visitNewArray(tree, nothing);
    }

    @Override
    public Void visitThrow(ThrowTree tree, Void nothing) {
      boolean written = tree.getExpression() instanceof NewClassTree made && made.getArguments().size() == 1
          && made.getArguments().get(0) instanceof LiteralTree;
      Check.due("rule 6: a new exception with a written text in " + here(), written, true);
      Check.due("rule 6: no throw in a constructor, " + here(), inConstructor, false);
      Check.due("only brother() and time() throw, " + here(), Set.of("GraterOrder.brother", "GraterOrder.time").contains(method), true);
      return super.visitThrow(tree, nothing);
    }

    @Override
    public Void visitForLoop(ForLoopTree tree, Void nothing) {
      Check.due("rule 9: a bound of the loop in " + here(), tree.getCondition() != null && !tree.getUpdate().isEmpty(), true);
      return super.visitForLoop(tree, nothing);
    }

    @Override
    public Void visitWhileLoop(WhileLoopTree tree, Void nothing) {
      Check.due("rule 9: a bound of the loop in " + here(), tree.getCondition().toString().contains("<"), true);
      return super.visitWhileLoop(tree, nothing);
    }

    @Override
    public Void visitVariable(VariableTree tree, Void nothing) {
      String type = String.valueOf(tree.getType());
      Check.due("rule 3: rows of objects have one dimension, " + type + " in " + here(),
          type.endsWith("[][]") && !type.equals("int[][]"), false);
      return super.visitVariable(tree, nothing);
    }

    @Override
    public Void visitTry(TryTree tree, Void nothing) {
      Check.text("no try", here(), "");
      return super.visitTry(tree, nothing);
    }

    @Override
    public Void visitLambdaExpression(LambdaExpressionTree tree, Void nothing) {
      Check.text("rule 2: no lambda", here(), "");
      return super.visitLambdaExpression(tree, nothing);
    }

    @Override
    public Void visitMemberReference(MemberReferenceTree tree, Void nothing) {
      Check.text("rule 2: no method reference", here(), "");
      return super.visitMemberReference(tree, nothing);
    }

    @Override
    public Void visitSynchronized(SynchronizedTree tree, Void nothing) {
      Check.text("rule 6: no synchronized", here(), "");
      return super.visitSynchronized(tree, nothing);
    }

    @Override
    public Void visitAssert(AssertTree tree, Void nothing) {
      Check.text("rule 6: no assert", here(), "");
      return super.visitAssert(tree, nothing);
    }
  }
}
