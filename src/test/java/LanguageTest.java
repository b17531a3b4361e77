import com.sun.source.tree.*;
import com.sun.source.util.JavacTask;
import com.sun.source.util.SourcePositions;
import com.sun.source.util.TreePath;
import com.sun.source.util.TreePathScanner;
import com.sun.source.util.Trees;
import java.nio.file.Files;
import java.nio.file.Path;
import java.util.EnumSet;
import java.util.List;
import java.util.Map;
import java.util.Set;
import java.util.TreeMap;
import java.util.TreeSet;
import javax.lang.model.element.Element;
import javax.lang.model.element.ElementKind;
import javax.lang.model.element.ExecutableElement;
import javax.lang.model.element.Modifier;
import javax.lang.model.element.TypeElement;
import javax.lang.model.element.VariableElement;
import javax.lang.model.type.TypeMirror;
import javax.tools.JavaCompiler;
import javax.tools.JavaFileObject;
import javax.tools.StandardJavaFileManager;
import javax.tools.ToolProvider;

/** LANGUAGE.md on the class as the compiler reads it, rule by rule; FaceTest has the face. */
public final class LanguageTest {
  private static final Path FILE = Path.of("src/main/java/StuckDoor.java");
  /** What rule 4 leaves of the library, as far as the class uses it; another one is added here only if it stands there. */
  private static final Set<String> LIBRARY = Set.of("java.lang.Math.max", "java.lang.Math.min", "java.lang.Math.abs",
    "java.lang.Integer.bitCount", "java.lang.System.arraycopy", "java.util.Arrays.fill");
  private static final Set<String> TYPES = Set.of("int", "long", "byte", "boolean", "int[]", "long[]", "int[][]");
  private static final Set<String> CONSTANTS = Set.of("int", "long", "boolean", "char", "java.lang.String");
  private static final Set<Tree.Kind> BANNED = EnumSet.of(Tree.Kind.LAMBDA_EXPRESSION, Tree.Kind.MEMBER_REFERENCE,
    Tree.Kind.THROW, Tree.Kind.TRY, Tree.Kind.CATCH, Tree.Kind.SYNCHRONIZED, Tree.Kind.ASSERT, Tree.Kind.PACKAGE,
    Tree.Kind.ANNOTATION);
  /** Those that call themselves or one another, each with a bound that it carries. */
  private static final Set<String> RECURSIVE = Set.of("Turns.attemptFrom", "Duel.worth", "Duel.worthOf");

  private static final Map<String, Set<String>> calls = new TreeMap<>();
  private static final Map<String, ExecutableElement> methods = new TreeMap<>();
  private static int looks = 0;
  private static int wrong = 0;

  private static void that(int rule, String what, boolean holds) {
    looks++;
    if (!holds) {
      wrong++;
      System.out.println("rule " + rule + ": " + what);
    }
  }

  public static void main(String[] args) throws Exception {
    JavaCompiler compiler = ToolProvider.getSystemJavaCompiler();
    try (StandardJavaFileManager files = compiler.getStandardFileManager(null, null, null)) {
      Iterable<? extends JavaFileObject> sources = files.getJavaFileObjects(FILE);
      JavacTask task = (JavacTask) compiler.getTask(null, files, null, List.of("-proc:none", "--release", "17"), null, sources);
      List<CompilationUnitTree> units = new java.util.ArrayList<>();
      for (CompilationUnitTree unit : task.parse()) units.add(unit);
      task.analyze();
      that(1, "one file", units.size() == 1);
      new Look(Trees.instance(task), units.get(0)).scan(units.get(0), null);
    }
    depths();
    plainSigns();
    System.out.println(looks + " looks, " + wrong + " wrong");
    if (wrong != 0 || looks < 1000) System.exit(1);
  }

  private static void plainSigns() throws Exception {
    for (byte b : Files.readAllBytes(FILE)) if (b != '\n' && (b < 32 || b > 126)) that(4, "a sign " + b, false);
  }

  // ---- rules 8, 11: how deep calls go

  private static void depths() {
    Set<String> own = new TreeSet<>(methods.keySet());
    Set<String> recursive = new TreeSet<>();
    for (String from : own) if (reaches(from, from, new TreeSet<>())) recursive.add(from);
    that(8, "these call themselves: " + recursive, recursive.equals(new TreeSet<>(RECURSIVE)));
    for (String one : recursive) that(8, one + " is private", methods.get(one).getModifiers().contains(Modifier.PRIVATE));
    for (String from : own) {
      int deep = longest(from, new TreeSet<>());
      that(11, from + " goes " + deep + " deep", deep <= 8);
    }
  }

  private static boolean reaches(String from, String to, Set<String> seen) {
    for (String next : calls.getOrDefault(from, Set.of())) {
      if (next.equals(to) || seen.add(next) && reaches(next, to, seen)) return true;
    }
    return false;
  }

  /** The most methods that can stand open at once, each counted once, the library's too. */
  private static int longest(String from, Set<String> open) {
    if (!open.add(from)) return 0;
    int most = 0;
    for (String next : calls.getOrDefault(from, Set.of())) most = Math.max(most, longest(next, open));
    open.remove(from);
    return most + 1;
  }

  // ---- what stands in the file

  private static final class Look extends TreePathScanner<Void, Void> {
    private final Trees trees;
    private final CompilationUnitTree unit;
    private final Set<String> names = new TreeSet<>();
    private int classes = 0;

    Look(Trees trees, CompilationUnitTree unit) {
      this.trees = trees;
      this.unit = unit;
      for (ImportTree one : unit.getImports()) {
        that(4, one.toString().trim(), one.getQualifiedIdentifier().toString().equals("java.util.Arrays") && !one.isStatic());
      }
      that(1, "no package line", unit.getPackageName() == null);
    }

    @Override
    public Void scan(Tree tree, Void v) {
      if (tree != null) that(6, tree.getKind() + " at line " + line(tree), !BANNED.contains(tree.getKind()));
      return super.scan(tree, v);
    }

    private long line(Tree tree) {
      return unit.getLineMap().getLineNumber(start(tree));
    }

    private long start(Tree tree) {
      SourcePositions at = trees.getSourcePositions();
      return Math.max(0, at.getStartPosition(unit, tree));
    }

    private Element elementHere() {
      return trees.getElement(getCurrentPath());
    }

    private static boolean isOwn(Element e) {
      Element one = e;
      while (one != null && one.getKind() != ElementKind.PACKAGE) {
        if (one.toString().equals("StuckDoor")) return true;
        one = one.getEnclosingElement();
      }
      return false;
    }

    private static String nameOf(ExecutableElement e) {
      TypeElement in = (TypeElement) e.getEnclosingElement();
      return (isOwn(e) ? in.getSimpleName() : in.getQualifiedName()) + "." + e.getSimpleName();
    }

    /** The method around a place; null: a field's first value. */
    private ExecutableElement methodAround() {
      for (TreePath p = getCurrentPath(); p != null; p = p.getParentPath()) {
        if (p.getLeaf() instanceof MethodTree) return (ExecutableElement) trees.getElement(p);
      }
      return null;
    }

    @Override
    public Void visitClass(ClassTree tree, Void v) {
      TypeElement e = (TypeElement) elementHere();
      boolean isOuter = e.getSimpleName().contentEquals("StuckDoor");
      classes++;
      that(11, "some twelve classes", classes <= 12);
      that(2, e + " is of the file or right inside the class", e.getNestingKind().isNested() != isOuter
        && !e.getSimpleName().toString().isEmpty());
      that(1, e + " is static, not public", isOuter
        || e.getModifiers().contains(Modifier.STATIC) && !e.getModifiers().contains(Modifier.PUBLIC));
      that(2, e + " stands in the class, not in another inside", isOuter || e.getEnclosingElement().toString().equals("StuckDoor"));
      int fields = 0;
      for (Tree member : tree.getMembers()) {
        that(5, "no block at line " + line(member), member.getKind() != Tree.Kind.BLOCK);
        if (member instanceof VariableTree one && !one.getModifiers().getFlags().contains(Modifier.STATIC)) fields++;
        if (isOuter && member instanceof MethodTree one && one.getModifiers().getFlags().contains(Modifier.PUBLIC)) {
          names.add(one.getName().toString());
        }
      }
      that(11, e + " has some twenty fields", fields <= 20);
      return super.visitClass(tree, v);
    }

    @Override
    public Void visitMethod(MethodTree tree, Void v) {
      ExecutableElement e = (ExecutableElement) elementHere();
      String name = nameOf(e);
      boolean isMade = e.getKind() == ElementKind.CONSTRUCTOR;
      that(1, name + " stands once", isMade || methods.put(name, e) == null);
      boolean isFace = e.getEnclosingElement().toString().equals("StuckDoor") && e.getModifiers().contains(Modifier.PUBLIC);
      that(1, name + " bears a public name", isFace || isMade || !names.contains(tree.getName().toString()));
      that(11, name + " takes seven at most", tree.getParameters().size() <= 7);
      long end = trees.getSourcePositions().getEndPosition(unit, tree);
      long lines = end < 0 ? 0 : unit.getLineMap().getLineNumber(end) - line(tree);
      that(11, name + " has " + lines + " lines", lines <= 60);
      return super.visitMethod(tree, v);
    }

    @Override
    public Void visitVariable(VariableTree tree, Void v) {
      VariableElement e = (VariableElement) elementHere();
      TypeMirror type = e.asType();
      boolean isOwnType = type.toString().startsWith("StuckDoor.");
      boolean isStatic = e.getModifiers().contains(Modifier.STATIC);
      that(3, e + " is of " + type, TYPES.contains(type.toString()) || isOwnType && !isStatic);
      if (isStatic) {
        that(5, e + " is final", e.getModifiers().contains(Modifier.FINAL));
        boolean isWrittenOut = tree.getInitializer() instanceof NewArrayTree one && one.getInitializers() != null;
        that(5, e + " is a constant", CONSTANTS.contains(type.toString()) ? e.getConstantValue() != null : isWrittenOut);
      }
      return super.visitVariable(tree, v);
    }

    @Override
    public Void visitMethodInvocation(MethodInvocationTree tree, Void v) {
      ExecutableElement e = (ExecutableElement) elementHere();
      // what a class that extends nothing calls as its first line is the compiler's own
      if (e.getKind() != ElementKind.CONSTRUCTOR) {
        String name = nameOf(e);
        that(4, name + " at line " + line(tree), isOwn(e) || LIBRARY.contains(name));
        ExecutableElement around = methodAround();
        if (around != null) calls.computeIfAbsent(nameOf(around), k -> new TreeSet<>()).add(name);
      }
      return super.visitMethodInvocation(tree, v);
    }

    @Override
    public Void visitNewArray(NewArrayTree tree, Void v) {
      madeOnce(tree);
      return super.visitNewArray(tree, v);
    }

    @Override
    public Void visitNewClass(NewClassTree tree, Void v) {
      madeOnce(tree);
      that(2, "no body at line " + line(tree), tree.getClassBody() == null);
      return super.visitNewClass(tree, v);
    }

    /** README says that calls make no object: all are made with the object. */
    private void madeOnce(Tree tree) {
      ExecutableElement around = methodAround();
      that(12, tree + " at line " + line(tree), around == null || around.getKind() == ElementKind.CONSTRUCTOR);
    }

    @Override
    public Void visitTypeCast(TypeCastTree tree, Void v) {
      that(6, tree + " is a cast of numbers", Set.of("int", "long", "byte").contains(tree.getType().toString()));
      return super.visitTypeCast(tree, v);
    }

    @Override
    public Void visitArrayAccess(ArrayAccessTree tree, Void v) {
      that(3, tree + " by an int", trees.getTypeMirror(new TreePath(getCurrentPath(), tree.getIndex())).toString().equals("int"));
      return super.visitArrayAccess(tree, v);
    }

    @Override
    public Void visitForLoop(ForLoopTree tree, Void v) {
      boolean isCounted = tree.getCondition() != null && tree.getCondition().toString().matches(".*[<>].*");
      that(9, "the loop at line " + line(tree) + " counts", isCounted && tree.getUpdate().size() == 1);
      return super.visitForLoop(tree, v);
    }

    @Override
    public Void visitWhileLoop(WhileLoopTree tree, Void v) {
      String condition = tree.getCondition().toString();
      String counter = condition.replaceAll("^\\((\\w+) < .*", "$1");
      that(9, "the loop at line " + line(tree) + " counts", !counter.equals(condition)
        && tree.getStatement().toString().contains(counter + "++"));
      return super.visitWhileLoop(tree, v);
    }

    @Override
    public Void visitBinary(BinaryTree tree, Void v) {
      TreePath here = getCurrentPath();
      that(10, tree + " is of numbers", !trees.getTypeMirror(here).toString().equals("java.lang.String"));
      if (tree.getKind() == Tree.Kind.DIVIDE || tree.getKind() == Tree.Kind.REMAINDER) divisor(tree);
      return super.visitBinary(tree, v);
    }

    @Override
    public Void visitCompoundAssignment(CompoundAssignmentTree tree, Void v) {
      that(7, tree + " divides", tree.getKind() != Tree.Kind.DIVIDE_ASSIGNMENT && tree.getKind() != Tree.Kind.REMAINDER_ASSIGNMENT);
      return super.visitCompoundAssignment(tree, v);
    }

    /** A divisor is a constant, or its method looks at it first: by its own name, or by isEmpty() for PEOPLE, SAYINGS. */
    private void divisor(BinaryTree tree) {
      Tree right = tree.getRightOperand();
      TreePath path = new TreePath(getCurrentPath(), right);
      boolean isConstant = right instanceof LiteralTree
        || trees.getElement(path) instanceof VariableElement e && e.getConstantValue() != null;
      if (isConstant) {
        that(7, tree + " is by another number than 0", !right.toString().equals("0"));
        return;
      }
      String body = bodyAround();
      String ahead = body.substring(0, Math.max(0, body.indexOf(tree.toString())));
      boolean isSeen = ahead.contains(right + " == 0") || ahead.contains(right + " != 0") || ahead.contains("isEmpty()")
        || ahead.contains(right + " = a < 1 ? 1 : a");
      that(7, tree + " is looked at first", isSeen);
    }

    private String bodyAround() {
      for (TreePath p = getCurrentPath(); p != null; p = p.getParentPath()) {
        if (p.getLeaf() instanceof MethodTree m) return m.getBody().toString();
      }
      return "";
    }
  }
}
