import com.sun.source.tree.AssertTree;
import com.sun.source.tree.BinaryTree;
import com.sun.source.tree.BlockTree;
import com.sun.source.tree.CatchTree;
import com.sun.source.tree.ClassTree;
import com.sun.source.tree.CompilationUnitTree;
import com.sun.source.tree.DoWhileLoopTree;
import com.sun.source.tree.EnhancedForLoopTree;
import com.sun.source.tree.ExpressionTree;
import com.sun.source.tree.ForLoopTree;
import com.sun.source.tree.ImportTree;
import com.sun.source.tree.LambdaExpressionTree;
import com.sun.source.tree.LiteralTree;
import com.sun.source.tree.MemberReferenceTree;
import com.sun.source.tree.MethodInvocationTree;
import com.sun.source.tree.MethodTree;
import com.sun.source.tree.NewArrayTree;
import com.sun.source.tree.NewClassTree;
import com.sun.source.tree.SynchronizedTree;
import com.sun.source.tree.ThrowTree;
import com.sun.source.tree.Tree;
import com.sun.source.tree.TryTree;
import com.sun.source.tree.VariableTree;
import com.sun.source.tree.WhileLoopTree;
import com.sun.source.util.JavacTask;
import com.sun.source.util.TreePath;
import com.sun.source.util.TreePathScanner;
import com.sun.source.util.Trees;
import java.io.IOException;
import java.net.URI;
import java.util.HashMap;
import java.util.HashSet;
import java.util.LinkedHashSet;
import java.util.List;
import java.util.Map;
import java.util.Set;
import java.util.TreeSet;
import javax.lang.model.element.Element;
import javax.lang.model.element.ElementKind;
import javax.lang.model.element.Modifier;
import javax.lang.model.element.TypeElement;
import javax.lang.model.type.ArrayType;
import javax.lang.model.type.DeclaredType;
import javax.lang.model.type.TypeKind;
import javax.lang.model.type.TypeMirror;
import javax.tools.JavaFileObject;
import javax.tools.SimpleJavaFileObject;
import javax.tools.ToolProvider;

/** Finds what breaks those rules of ../shared/LANGUAGE.md that a source shows by itself. */
final class LanguageScan extends TreePathScanner<Void, Void> {
  private static final int MOST_CALLS_OPEN = 8;
  private static final int MOST_CLASSES = 12;
  private static final int MOST_FIELDS = 20;
  private static final int MOST_LINES = 60;
  private static final int MOST_PARAMETERS = 7;

  private static final Set<String> EXCEPTIONS = Set.of(
      "java.lang.IllegalStateException", "java.lang.IllegalArgumentException",
      "java.lang.IndexOutOfBoundsException", "java.lang.ArithmeticException",
      "java.lang.UnsupportedOperationException", "java.util.NoSuchElementException",
      "java.lang.RuntimeException");
  private static final Set<String> LISTS = Set.of("java.util.ArrayList", "java.util.List");
  private static final Set<String> TEXTS = Set.of("java.lang.String", "java.lang.StringBuilder");
  private static final Set<String> IMPORTS = Set.of("java.util.ArrayList", "java.util.List",
      "java.util.Arrays", "java.util.Iterator", "java.util.NoSuchElementException");
  private static final Map<String, Set<String>> LIBRARY = Map.of(
      "java.lang.String",
      Set.of("length", "charAt", "isEmpty", "equals", "indexOf", "substring", "toCharArray"),
      "java.lang.StringBuilder",
      Set.of("append", "charAt", "setCharAt", "setLength", "deleteCharAt", "reverse", "length",
          "toString"),
      "java.util.ArrayList",
      Set.of("add", "get", "set", "remove", "size", "isEmpty", "clear"),
      "java.util.List",
      Set.of("add", "get", "set", "remove", "size", "isEmpty", "clear", "of"),
      "java.lang.Math", Set.of("max", "min", "abs", "floorDiv", "floorMod"),
      "java.lang.Integer", Set.of("compare", "max", "min", "bitCount"),
      "java.lang.Long", Set.of("compare", "max", "min", "bitCount"),
      "java.lang.System", Set.of("arraycopy"),
      "java.util.Arrays", Set.of("copyOf", "copyOfRange", "fill"));

  private final Set<String> breaches = new LinkedHashSet<>();
  private final Map<Element, Set<Element>> calls = new HashMap<>();
  private final Trees trees;
  private final CompilationUnitTree unit;
  private Element method;
  private boolean hasTry;
  private boolean hasThrow;
  private int loops;
  private int classes;

  private LanguageScan(Trees trees, CompilationUnitTree unit) {
    this.trees = trees;
    this.unit = unit;
  }

  /** What breaks the rules, each with the rule's number ahead. */
  static Set<String> breachesOf(String source) {
    JavaFileObject file = new SimpleJavaFileObject(
        URI.create("string:///HeavyHaul.java"), JavaFileObject.Kind.SOURCE) {
      @Override
      public CharSequence getCharContent(boolean ignoreEncodingErrors) {
        return source;
      }
    };
    JavacTask task = (JavacTask) ToolProvider.getSystemJavaCompiler()
        .getTask(null, null, null, List.of("-proc:none"), null, List.of(file));
    try {
      CompilationUnitTree unit = task.parse().iterator().next();
      task.analyze();
      LanguageScan scan = new LanguageScan(Trees.instance(task), unit);
      scan.scan(unit, null);
      scan.lookAtCalls();
      return scan.breaches;
    } catch (IOException e) {
      return Set.of("the source can't be read");
    }
  }

  private void breach(int rule, String what) {
    String where = method == null ? "" : " in " + method.getSimpleName();
    breaches.add(rule + ": " + what + where);
  }

  private Element elementHere() {
    return trees.getElement(getCurrentPath());
  }

  private TypeMirror typeOf(Tree tree) {
    return trees.getTypeMirror(new TreePath(getCurrentPath(), tree));
  }

  /** Whether the source itself tells of it, not the library. */
  private boolean isOwn(Element element) {
    return trees.getPath(element) != null;
  }

  private static String nameOf(TypeMirror type) {
    return type instanceof DeclaredType declared
        ? ((TypeElement) declared.asElement()).getQualifiedName().toString()
        : type.toString();
  }

  private boolean isAllowed(TypeMirror type) {
    if (type.getKind().isPrimitive() || type.getKind() == TypeKind.VOID) {
      return true;
    }
    if (type instanceof ArrayType array) {
      TypeMirror part = array.getComponentType();
      return part.getKind().isPrimitive() || isOfOwnClass(part)
          || part instanceof ArrayType row && row.getComponentType().getKind().isPrimitive();
    }
    if (LISTS.contains(nameOf(type))) {
      List<? extends TypeMirror> of = ((DeclaredType) type).getTypeArguments();
      return of.size() == 1
          && (isOfOwnClass(of.get(0)) || nameOf(of.get(0)).equals("java.lang.Integer"));
    }
    return isOfOwnClass(type) || TEXTS.contains(nameOf(type))
        || nameOf(type).equals("java.lang.Integer");
  }

  private boolean isOfOwnClass(TypeMirror type) {
    return type instanceof DeclaredType declared && isOwn(declared.asElement());
  }

  // Classes, fields and methods

  @Override
  public Void visitImport(ImportTree tree, Void none) {
    if (tree.isStatic() || !IMPORTS.contains(tree.getQualifiedIdentifier().toString())) {
      breach(4, "import of " + tree.getQualifiedIdentifier());
    }
    return super.visitImport(tree, none);
  }

  @Override
  public Void visitClass(ClassTree tree, Void none) {
    classes++;
    if (classes == MOST_CLASSES + 1) {
      breach(11, "more classes than " + MOST_CLASSES);
    }
    int fields = 0;
    for (Tree member : tree.getMembers()) {
      boolean isField = member instanceof VariableTree;
      if (isField && !((VariableTree) member).getModifiers().getFlags().contains(Modifier.STATIC)) {
        fields++;
      }
    }
    if (fields > MOST_FIELDS) {
      breach(11, "more fields than " + MOST_FIELDS);
    }
    return super.visitClass(tree, none);
  }

  @Override
  public Void visitBlock(BlockTree tree, Void none) {
    if (tree.isStatic()) {
      breach(5, "a static initialiser");
    }
    return super.visitBlock(tree, none);
  }

  @Override
  public Void visitVariable(VariableTree tree, Void none) {
    Element element = elementHere();
    if (!isAllowed(element.asType()) && element.getKind() != ElementKind.EXCEPTION_PARAMETER) {
      breach(3, "the type of " + tree.getName());
    }
    Set<Modifier> flags = element.getModifiers();
    if (flags.contains(Modifier.STATIC)) {
      if (!flags.contains(Modifier.FINAL)) {
        breach(5, "static " + tree.getName());
      }
      if (isOfOwnClass(element.asType()) || LISTS.contains(nameOf(element.asType()))) {
        breach(5, "a constant that is an object, " + tree.getName());
      }
    }
    return super.visitVariable(tree, none);
  }

  @Override
  public Void visitMethod(MethodTree tree, Void none) {
    Element outer = method;
    method = elementHere();
    hasTry = false;
    hasThrow = false;
    calls.computeIfAbsent(method, key -> new HashSet<>());
    if (tree.getParameters().size() > MOST_PARAMETERS) {
      breach(11, "more parameters than " + MOST_PARAMETERS);
    }
    if (lineOf(tree, false) - lineOf(tree, true) >= MOST_LINES) {
      breach(11, "more lines than " + MOST_LINES);
    }
    if (tree.getReturnType() != null && !isAllowed(typeOf(tree.getReturnType()))) {
      breach(3, "the type of an answer");
    }
    super.visitMethod(tree, none);
    if (hasTry && hasThrow) {
      breach(6, "a try and a throw together");
    }
    method = outer;
    return null;
  }

  private long lineOf(Tree tree, boolean isFirst) {
    long at = isFirst
        ? trees.getSourcePositions().getStartPosition(unit, tree)
        : trees.getSourcePositions().getEndPosition(unit, tree);
    return at < 0 ? 0 : unit.getLineMap().getLineNumber(at);
  }

  // What a method may not hold

  @Override
  public Void visitLambdaExpression(LambdaExpressionTree tree, Void none) {
    breach(2, "a lambda");
    return super.visitLambdaExpression(tree, none);
  }

  @Override
  public Void visitMemberReference(MemberReferenceTree tree, Void none) {
    breach(2, "a method reference");
    return super.visitMemberReference(tree, none);
  }

  @Override
  public Void visitSynchronized(SynchronizedTree tree, Void none) {
    breach(6, "synchronized");
    return super.visitSynchronized(tree, none);
  }

  @Override
  public Void visitAssert(AssertTree tree, Void none) {
    breach(6, "assert");
    return super.visitAssert(tree, none);
  }

  @Override
  public Void visitThrow(ThrowTree tree, Void none) {
    hasThrow = true;
    if (method != null && method.getKind() == ElementKind.CONSTRUCTOR) {
      breach(6, "a throw in a constructor");
    }
    ExpressionTree thrown = tree.getExpression();
    boolean isAsAllowed = thrown instanceof NewClassTree made
        && EXCEPTIONS.contains(nameOf(typeOf(made)))
        && isWritten(made.getArguments());
    if (!isAsAllowed) {
      breach(6, "throw " + thrown);
    }
    return super.visitThrow(tree, none);
  }

  private static boolean isWritten(List<? extends ExpressionTree> arguments) {
    return arguments.isEmpty()
        || arguments.size() == 1 && arguments.get(0).getKind() == Tree.Kind.STRING_LITERAL;
  }

  @Override
  public Void visitTry(TryTree tree, Void none) {
    hasTry = true;
    if (tree.getFinallyBlock() != null || !tree.getResources().isEmpty()) {
      breach(6, "finally, or try with resources");
    }
    return super.visitTry(tree, none);
  }

  @Override
  public Void visitCatch(CatchTree tree, Void none) {
    if (!EXCEPTIONS.contains(nameOf(typeOf(tree.getParameter().getType())))) {
      breach(6, "a catch of " + tree.getParameter().getType());
    }
    return super.visitCatch(tree, none);
  }

  @Override
  public Void visitBinary(BinaryTree tree, Void none) {
    boolean isOfTexts = isText(tree.getLeftOperand()) || isText(tree.getRightOperand());
    boolean isSame = tree.getKind() == Tree.Kind.EQUAL_TO
        || tree.getKind() == Tree.Kind.NOT_EQUAL_TO;
    if (isSame && isOfTexts) {
      breach(6, "== between texts");
    }
    if (tree.getKind() == Tree.Kind.PLUS && isOfTexts) {
      breach(10, "texts joined by +");
    }
    return super.visitBinary(tree, none);
  }

  private boolean isText(Tree tree) {
    TypeMirror type = typeOf(tree);
    return type != null && nameOf(type).equals("java.lang.String");
  }

  @Override
  public Void visitLiteral(LiteralTree tree, Void none) {
    String signs = String.valueOf(tree.getValue());
    for (int i = 0; i < signs.length(); i++) {
      if (signs.charAt(i) < 1 || signs.charAt(i) > 127) {
        breach(4, "a sign beyond 127");
      }
    }
    return super.visitLiteral(tree, none);
  }

  // Loops, and what is made

  @Override
  public Void visitForLoop(ForLoopTree tree, Void none) {
    if (tree.getCondition() == null || tree.getUpdate().isEmpty()) {
      breach(9, "a loop without a bound");
    }
    loops++;
    super.visitForLoop(tree, none);
    loops--;
    return null;
  }

  @Override
  public Void visitEnhancedForLoop(EnhancedForLoopTree tree, Void none) {
    loops++;
    super.visitEnhancedForLoop(tree, none);
    loops--;
    return null;
  }

  @Override
  public Void visitWhileLoop(WhileLoopTree tree, Void none) {
    if (tree.getCondition().toString().equals("(true)")) {
      breach(9, "a loop without a bound");
    }
    loops++;
    super.visitWhileLoop(tree, none);
    loops--;
    return null;
  }

  @Override
  public Void visitDoWhileLoop(DoWhileLoopTree tree, Void none) {
    if (tree.getCondition().toString().equals("(true)")) {
      breach(9, "a loop without a bound");
    }
    loops++;
    super.visitDoWhileLoop(tree, none);
    loops--;
    return null;
  }

  @Override
  public Void visitNewArray(NewArrayTree tree, Void none) {
    if (loops > 0) {
      breach(12, "an array made in a loop");
    }
    return super.visitNewArray(tree, none);
  }

  @Override
  public Void visitNewClass(NewClassTree tree, Void none) {
    TypeMirror made = typeOf(tree);
    if (!isAllowed(made) && !EXCEPTIONS.contains(nameOf(made))) {
      breach(4, "new " + nameOf(made));
    }
    if (loops > 0) {
      breach(12, "an object made in a loop");
    }
    noteCall(elementHere());
    return super.visitNewClass(tree, none);
  }

  // Calls

  @Override
  public Void visitMethodInvocation(MethodInvocationTree tree, Void none) {
    Element called = elementHere();
    if (called != null && called.getKind() == ElementKind.METHOD && !isOwn(called)) {
      String owner = nameOf(called.getEnclosingElement().asType());
      String name = called.getSimpleName().toString();
      boolean isOfArray = owner.equals("Array") && name.equals("clone");
      if (!isOfArray && !LIBRARY.getOrDefault(owner, Set.of()).contains(name)) {
        breach(4, "call of " + owner + "." + name);
      }
    }
    noteCall(called);
    return super.visitMethodInvocation(tree, none);
  }

  private void noteCall(Element called) {
    if (method != null && called != null && isOwn(called)) {
      calls.get(method).add(called);
    }
  }

  private void lookAtCalls() {
    Map<Element, Integer> open = new HashMap<>();
    TreeSet<String> deep = new TreeSet<>();
    for (Element each : calls.keySet()) {
      if (callsOpen(each, open, new HashSet<>()) > MOST_CALLS_OPEN) {
        deep.add(each.getSimpleName().toString());
      }
    }
    if (!deep.isEmpty()) {
      breach(11, "more calls open at once than " + MOST_CALLS_OPEN + " behind " + deep);
    }
  }

  /** How many calls stand open at once at the most, from this one on. */
  private int callsOpen(Element from, Map<Element, Integer> known, Set<Element> above) {
    if (known.containsKey(from)) {
      return known.get(from);
    }
    if (!above.add(from)) {
      breach(8, "recursion of " + from.getSimpleName());
      return 0;
    }
    int most = 0;
    for (Element to : calls.getOrDefault(from, Set.of())) {
      most = Math.max(most, callsOpen(to, known, above));
    }
    above.remove(from);
    known.put(from, most + 1);
    return most + 1;
  }
}
