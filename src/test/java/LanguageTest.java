import com.sun.source.tree.AssertTree;
import com.sun.source.tree.BinaryTree;
import com.sun.source.tree.CatchTree;
import com.sun.source.tree.ClassTree;
import com.sun.source.tree.CompilationUnitTree;
import com.sun.source.tree.CompoundAssignmentTree;
import com.sun.source.tree.DoWhileLoopTree;
import com.sun.source.tree.ForLoopTree;
import com.sun.source.tree.IdentifierTree;
import com.sun.source.tree.InstanceOfTree;
import com.sun.source.tree.LambdaExpressionTree;
import com.sun.source.tree.LiteralTree;
import com.sun.source.tree.MemberReferenceTree;
import com.sun.source.tree.MemberSelectTree;
import com.sun.source.tree.MethodInvocationTree;
import com.sun.source.tree.MethodTree;
import com.sun.source.tree.NewClassTree;
import com.sun.source.tree.SynchronizedTree;
import com.sun.source.tree.ThrowTree;
import com.sun.source.tree.Tree;
import com.sun.source.tree.TryTree;
import com.sun.source.tree.TypeCastTree;
import com.sun.source.tree.VariableTree;
import com.sun.source.tree.WhileLoopTree;
import com.sun.source.util.JavacTask;
import com.sun.source.util.TreePathScanner;
import com.sun.source.util.Trees;
import java.nio.file.Path;
import java.util.ArrayList;
import java.util.HashMap;
import java.util.HashSet;
import java.util.List;
import java.util.Map;
import java.util.Set;
import javax.lang.model.element.Element;
import javax.lang.model.element.ElementKind;
import javax.lang.model.element.Modifier;
import javax.lang.model.element.TypeElement;
import javax.lang.model.type.ArrayType;
import javax.lang.model.type.DeclaredType;
import javax.lang.model.type.TypeMirror;
import javax.tools.JavaCompiler;
import javax.tools.StandardJavaFileManager;
import javax.tools.ToolProvider;

/**
 * What of the rules of ../shared/LANGUAGE.md can be seen in the source. The test is narrower than the
 * rules: it lets through what the class uses of the language, and a new use has to be added here after
 * a look at the rules. To be run in the directory of README.md, as .ci/run does.
 */
public final class LanguageTest extends TreePathScanner<Void, Void> {
  private static final String SOURCE = "src/main/java/GroundProver.java";
  private static final int MOST_CLASSES = 12;
  private static final int MOST_FIELDS = 20;
  private static final int MOST_PARAMETERS = 7;
  private static final int MOST_LINES = 60;
  private static final int MOST_CALLS = 8;
  private static final Set<String> LIBRARY = Set.of(
      "java.lang.Math.max", "java.lang.Math.min", "java.lang.System.arraycopy");
  private static final Set<String> EXCEPTIONS = Set.of(
      "java.lang.IllegalStateException", "java.lang.IllegalArgumentException",
      "java.lang.IndexOutOfBoundsException", "java.lang.ArithmeticException",
      "java.util.NoSuchElementException");

  private static int wrong;

  private final Trees trees;
  private final CompilationUnitTree unit;
  private final Set<String> faceNames = new HashSet<>();
  private final Map<Element, Set<Element>> called = new HashMap<>();
  private final Map<Element, Integer> fieldCounts = new HashMap<>();
  private Element method;
  private boolean isConstructor;
  private int classCount;

  private LanguageTest(Trees trees, CompilationUnitTree unit) {
    this.trees = trees;
    this.unit = unit;
  }

  public static void main(String[] args) throws Exception {
    JavaCompiler compiler = ToolProvider.getSystemJavaCompiler();
    try (StandardJavaFileManager files = compiler.getStandardFileManager(null, null, null)) {
      JavacTask task = (JavacTask) compiler.getTask(null, files, null, null, null,
          files.getJavaFileObjects(Path.of(args.length > 0 ? args[0] : SOURCE)));
      for (CompilationUnitTree unit : task.parse()) {
        task.analyze();
        new LanguageTest(Trees.instance(task), unit).look();
      }
    }
    System.out.println("LanguageTest: " + wrong + " not as due");
    if (wrong != 0) {
      System.exit(1);
    }
  }

  private void look() {
    if (unit.getPackage() != null || unit.getTypeDecls().size() != 1) {
      fail(unit, "rule 1: one class, without a package");
    }
    for (Tree member : ((ClassTree) unit.getTypeDecls().get(0)).getMembers()) {
      if (member instanceof MethodTree made && made.getModifiers().getFlags().contains(Modifier.PUBLIC)) {
        faceNames.add(made.getName().toString());
      }
    }
    scan(unit, null);
    if (classCount > MOST_CLASSES) {
      fail(unit, "rule 11: " + classCount + " classes");
    }
    fieldCounts.forEach((owner, count) -> {
      if (count > MOST_FIELDS) {
        fail(unit, "rule 11: " + owner + " has " + count + " fields");
      }
    });
    new Chains(called).look();
  }

  private void fail(Tree tree, String what) {
    wrong++;
    long at = trees.getSourcePositions().getStartPosition(unit, tree);
    System.out.println(SOURCE + ":" + unit.getLineMap().getLineNumber(Math.max(at, 0)) + ": " + what);
  }

  private Element here() {
    return trees.getElement(getCurrentPath());
  }

  private TypeMirror typeHere() {
    return trees.getTypeMirror(getCurrentPath());
  }

  // ---- rules 1, 2, 5, 8, 11: what is declared

  @Override
  public Void visitClass(ClassTree tree, Void none) {
    classCount++;
    Set<Modifier> flags = tree.getModifiers().getFlags();
    boolean isOuter = getCurrentPath().getParentPath().getLeaf() == unit;
    boolean isRight = isOuter
        ? flags.equals(Set.of(Modifier.PUBLIC, Modifier.FINAL))
        : flags.contains(Modifier.STATIC) && !flags.contains(Modifier.PUBLIC)
            && !flags.contains(Modifier.PROTECTED)
            && getCurrentPath().getParentPath().getLeaf() instanceof ClassTree;
    if (!isRight || tree.getKind() != Tree.Kind.CLASS || tree.getExtendsClause() != null) {
      fail(tree, "rules 1 and 2: the class " + tree.getSimpleName());
    }
    for (Tree member : tree.getMembers()) {
      if (!(member instanceof MethodTree || member instanceof VariableTree || member instanceof ClassTree)) {
        fail(member, "rule 5: an initialiser block");
      }
    }
    return super.visitClass(tree, none);
  }

  @Override
  public Void visitMethod(MethodTree tree, Void none) {
    method = here();
    isConstructor = method.getKind() == ElementKind.CONSTRUCTOR;
    called.put(method, new HashSet<>());
    Set<Modifier> flags = tree.getModifiers().getFlags();
    boolean isOfOuter = method.getEnclosingElement().getEnclosingElement().getKind() == ElementKind.PACKAGE;
    if (isOfOuter && !flags.contains(Modifier.PUBLIC) && !flags.contains(Modifier.PRIVATE)) {
      fail(tree, "rule 1: a member that is visible: " + tree.getName());
    }
    if (flags.contains(Modifier.PRIVATE) && !isConstructor && faceNames.contains(tree.getName().toString())) {
      fail(tree, "rule 1: a private method with the name of a public one: " + tree.getName());
    }
    if (flags.contains(Modifier.SYNCHRONIZED) || flags.contains(Modifier.NATIVE)) {
      fail(tree, "rule 6: " + flags);
    }
    if (tree.getParameters().size() > MOST_PARAMETERS) {
      fail(tree, "rule 11: too many parameters: " + tree.getName());
    }
    long lines = line(trees.getSourcePositions().getEndPosition(unit, tree))
        - line(trees.getSourcePositions().getStartPosition(unit, tree)) + 1;
    if (lines > MOST_LINES) {
      fail(tree, "rule 11: " + lines + " lines: " + tree.getName());
    }
    super.visitMethod(tree, none);
    method = null;
    return none;
  }

  private long line(long position) {
    return unit.getLineMap().getLineNumber(position);
  }

  @Override
  public Void visitVariable(VariableTree tree, Void none) {
    Element variable = here();
    if (variable.getKind() == ElementKind.FIELD) {
      lookAtField(tree, variable);
    }
    if (!isAllowed(variable.asType(), 0)) {
      fail(tree, "rule 3: the type " + variable.asType());
    }
    return super.visitVariable(tree, none);
  }

  private void lookAtField(VariableTree tree, Element field) {
    Set<Modifier> flags = field.getModifiers();
    boolean isOfOuter = field.getEnclosingElement().getEnclosingElement().getKind() == ElementKind.PACKAGE;
    if (isOfOuter && !flags.contains(Modifier.PRIVATE)) {
      fail(tree, "rule 1: a field that is visible: " + tree.getName());
    }
    if (!flags.contains(Modifier.STATIC)) {
      fieldCounts.merge(field.getEnclosingElement(), 1, Integer::sum);
    } else if (!flags.contains(Modifier.FINAL) || !field.asType().getKind().isPrimitive()) {
      fail(tree, "rule 5: a static field that is no constant: " + tree.getName());
    }
  }

  /** Numbers, rows of numbers in one or two dimensions, own classes, and no others so far. */
  private boolean isAllowed(TypeMirror type, int dimensions) {
    if (type.getKind().isPrimitive()) {
      return dimensions <= 2;
    }
    if (type instanceof ArrayType row) {
      return isAllowed(row.getComponentType(), dimensions + 1);
    }
    return type instanceof DeclaredType declared && dimensions <= 1 && isOwn(declared.asElement());
  }

  private boolean isOwn(Element element) {
    return trees.getPath(element) != null && trees.getPath(element).getCompilationUnit() == unit;
  }

  // ---- rules 4, 6, 12: what is called and made

  @Override
  public Void visitMethodInvocation(MethodInvocationTree tree, Void none) {
    Element target = trees.getElement(getCurrentPath());
    String name = ((TypeElement) target.getEnclosingElement()).getQualifiedName() + "." + target.getSimpleName();
    if (isOwn(target)) {
      called.get(method).add(target);
    } else if (!LIBRARY.contains(name) && !name.equals("java.lang.Object.<init>")) {
      fail(tree, "rule 4: " + name);
    }
    return super.visitMethodInvocation(tree, none);
  }

  @Override
  public Void visitNewClass(NewClassTree tree, Void none) {
    boolean isThrown = getCurrentPath().getParentPath().getLeaf() instanceof ThrowTree;
    if (tree.getClassBody() != null) {
      fail(tree, "rule 2: an anonymous class");
    }
    if (isOwn(here())) {
      if (method != null && isConstructor) {
        called.get(method).add(here());
      } else if (method != null) {
        fail(tree, "rule 12: so far objects are made in constructors alone");
      }
    } else if (!isThrown) {
      fail(tree, "rule 4: " + typeHere());
    }
    return super.visitNewClass(tree, none);
  }

  @Override
  public Void visitThrow(ThrowTree tree, Void none) {
    boolean isRight = !isConstructor
        && tree.getExpression() instanceof NewClassTree made
        && EXCEPTIONS.contains("" + trees.getTypeMirror(trees.getPath(unit, made)))
        && (made.getArguments().isEmpty() || made.getArguments().get(0) instanceof LiteralTree);
    if (!isRight) {
      fail(tree, "rule 6: " + tree);
    }
    return super.visitThrow(tree, none);
  }

  @Override
  public Void visitTry(TryTree tree, Void none) {
    fail(tree, "rule 6: so far the class needs no try");
    return super.visitTry(tree, none);
  }

  @Override
  public Void visitCatch(CatchTree tree, Void none) {
    fail(tree, "rule 6: so far the class needs no catch");
    return super.visitCatch(tree, none);
  }

  // ---- the other rules: what stands in a method

  @Override
  public Void visitLambdaExpression(LambdaExpressionTree tree, Void none) {
    fail(tree, "rule 2: a lambda");
    return super.visitLambdaExpression(tree, none);
  }

  @Override
  public Void visitMemberReference(MemberReferenceTree tree, Void none) {
    fail(tree, "rule 2: a method reference");
    return super.visitMemberReference(tree, none);
  }

  @Override
  public Void visitSynchronized(SynchronizedTree tree, Void none) {
    fail(tree, "rule 6: synchronized");
    return super.visitSynchronized(tree, none);
  }

  @Override
  public Void visitAssert(AssertTree tree, Void none) {
    fail(tree, "rule 6: assert");
    return super.visitAssert(tree, none);
  }

  @Override
  public Void visitInstanceOf(InstanceOfTree tree, Void none) {
    fail(tree, "rule 6: so far the class needs no instanceof");
    return super.visitInstanceOf(tree, none);
  }

  @Override
  public Void visitTypeCast(TypeCastTree tree, Void none) {
    if (!typeHere().getKind().isPrimitive()) {
      fail(tree, "rule 6: a cast to " + typeHere());
    }
    return super.visitTypeCast(tree, none);
  }

  @Override
  public Void visitBinary(BinaryTree tree, Void none) {
    lookAtOperation(tree, tree.getKind(), tree.getRightOperand());
    return super.visitBinary(tree, none);
  }

  @Override
  public Void visitCompoundAssignment(CompoundAssignmentTree tree, Void none) {
    boolean isDivision = tree.getKind() == Tree.Kind.DIVIDE_ASSIGNMENT
        || tree.getKind() == Tree.Kind.REMAINDER_ASSIGNMENT;
    lookAtOperation(tree, isDivision ? Tree.Kind.DIVIDE : tree.getKind(), tree.getExpression());
    return super.visitCompoundAssignment(tree, none);
  }

  private void lookAtOperation(Tree tree, Tree.Kind kind, Tree right) {
    if (!typeHere().getKind().isPrimitive()) {
      fail(tree, "rule 10: texts joined by +");
    }
    boolean isDivision = kind == Tree.Kind.DIVIDE || kind == Tree.Kind.REMAINDER;
    boolean isConstant = right instanceof LiteralTree
        || right instanceof IdentifierTree name && name.getName().toString().equals("MOST_PARTS");
    if (isDivision && !isConstant) {
      fail(tree, "rule 7: a divisor that may be 0: " + tree);
    }
  }

  @Override
  public Void visitWhileLoop(WhileLoopTree tree, Void none) {
    fail(tree, "rule 9: so far each loop is a for, which shows its end");
    return super.visitWhileLoop(tree, none);
  }

  @Override
  public Void visitDoWhileLoop(DoWhileLoopTree tree, Void none) {
    fail(tree, "rule 9: so far each loop is a for, which shows its end");
    return super.visitDoWhileLoop(tree, none);
  }

  @Override
  public Void visitForLoop(ForLoopTree tree, Void none) {
    if (tree.getCondition() == null || tree.getUpdate().isEmpty()) {
      fail(tree, "rule 9: a loop whose end cannot be seen");
    }
    return super.visitForLoop(tree, none);
  }

  @Override
  public Void visitMemberSelect(MemberSelectTree tree, Void none) {
    if (tree.getIdentifier().contentEquals("class")) {
      fail(tree, "rule 4: a class as a value");
    }
    return super.visitMemberSelect(tree, none);
  }

  @Override
  public Void visitLiteral(LiteralTree tree, Void none) {
    if (tree.getValue() instanceof String text && text.chars().anyMatch(sign -> sign < 1 || sign > 127)) {
      fail(tree, "rule 4: a text with other signs than 1 to 127");
    }
    return super.visitLiteral(tree, none);
  }

  /** Rules 8 and 11: chains of calls without recursion, and which methods are recursive. */
  private static final class Chains {
    private static final Set<String> RECURSIVE = Set.of("printFrom", "stepFrom", "solveFrom", "solveWith");

    private final Map<Element, Set<Element>> called;
    private final Map<Element, Integer> lengths = new HashMap<>();
    private final Map<Element, Set<Element>> reached = new HashMap<>();

    Chains(Map<Element, Set<Element>> called) {
      this.called = called;
    }

    void look() {
      Set<String> recursive = new HashSet<>();
      for (Element start : called.keySet()) {
        if (reaches(start, start)) {
          recursive.add(start.getSimpleName().toString());
        }
        if (length(start) > MOST_CALLS) {
          report("rule 11: a chain of " + length(start) + " calls from " + start);
        }
      }
      if (!recursive.equals(RECURSIVE)) {
        report("rule 8: recursive are " + recursive + ", known to end are " + RECURSIVE);
      }
    }

    private void report(String what) {
      wrong++;
      System.out.println(what);
    }

    private boolean reaches(Element from, Element to) {
      return reached.computeIfAbsent(from, this::allBelow).contains(to);
    }

    private Set<Element> allBelow(Element from) {
      Set<Element> all = new HashSet<>();
      List<Element> open = new ArrayList<>(called.getOrDefault(from, Set.of()));
      while (!open.isEmpty()) {
        Element next = open.remove(open.size() - 1);
        if (all.add(next)) {
          open.addAll(called.getOrDefault(next, Set.of()));
        }
      }
      return all;
    }

    /** Methods that call one another stand once each in a chain, however often they are entered. */
    private int length(Element from) {
      Integer known = lengths.get(from);
      if (known != null) {
        return known;
      }
      int members = 0;
      int longest = 0;
      for (Element member : called.keySet()) {
        boolean isTogether = member.equals(from) || (reaches(from, member) && reaches(member, from));
        members += isTogether ? 1 : 0;
        for (Element next : isTogether ? called.get(member) : Set.<Element>of()) {
          if (!next.equals(from) && !reaches(next, from)) {
            longest = Math.max(longest, length(next));
          }
        }
      }
      lengths.put(from, members + longest);
      return members + longest;
    }
  }
}
